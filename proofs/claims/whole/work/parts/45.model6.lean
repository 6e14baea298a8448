def cf_X6_canDoMany_s4_50  (m_o : Int32) (m_f : Int32) (m_r : Int32) (g_R : Nat → Int32) (g_C : Nat → Int32) (m_rl : Int32) (m_lf : Int32) (m_ov : Int32) (x1 : Int32) : Int32 :=
  x1
def cf_X6_canDoMany_s21_49  (m_o : Int32) (m_f : Int32) (m_r : Int32) (g_R : Nat → Int32) (g_C : Nat → Int32) (m_rl : Int32) (m_lf : Int32) (m_ov : Int32) (x1 : Int32) : Int32 :=
  cf_X6_canDoMany_s4_50  m_o m_f m_r g_R g_C m_rl m_lf m_ov x1
def cf_X6_canDoMany_s4_49  (m_o : Int32) (m_f : Int32) (m_r : Int32) (g_R : Nat → Int32) (g_C : Nat → Int32) (m_rl : Int32) (m_lf : Int32) (m_ov : Int32) (x1 : Int32) : Int32 :=
  (if (cf_X6_canDo m_o m_f m_r g_R g_C m_rl m_lf m_ov (49 : Int32)) = 0 then cf_X6_canDoMany_s21_49  m_o m_f m_r g_R g_C m_rl m_lf m_ov x1 else cf_X6_canDoMany_s21_49  m_o m_f m_r g_R g_C m_rl m_lf m_ov (x1 + (1 : Int32)))
def vc_X6_canDoMany_s4_49  (m_o : Int32) (m_f : Int32) (m_r : Int32) (g_R : Nat → Int32) (g_C : Nat → Int32) (m_rl : Int32) (m_lf : Int32) (m_ov : Int32) (x1 : Int32) : Prop :=
  (vc_X6_canDo m_o m_f m_r g_R g_C m_rl m_lf m_ov (49 : Int32) ∧ True)
def cf_X6_canDoMany_s21_48  (m_o : Int32) (m_f : Int32) (m_r : Int32) (g_R : Nat → Int32) (g_C : Nat → Int32) (m_rl : Int32) (m_lf : Int32) (m_ov : Int32) (x1 : Int32) : Int32 :=
  cf_X6_canDoMany_s4_49  m_o m_f m_r g_R g_C m_rl m_lf m_ov x1
def vc_X6_canDoMany_s21_48  (m_o : Int32) (m_f : Int32) (m_r : Int32) (g_R : Nat → Int32) (g_C : Nat → Int32) (m_rl : Int32) (m_lf : Int32) (m_ov : Int32) (x1 : Int32) : Prop :=
  vc_X6_canDoMany_s4_49  m_o m_f m_r g_R g_C m_rl m_lf m_ov x1
def cf_X6_canDoMany_s4_48  (m_o : Int32) (m_f : Int32) (m_r : Int32) (g_R : Nat → Int32) (g_C : Nat → Int32) (m_rl : Int32) (m_lf : Int32) (m_ov : Int32) (x1 : Int32) : Int32 :=
  (if (cf_X6_canDo m_o m_f m_r g_R g_C m_rl m_lf m_ov (48 : Int32)) = 0 then cf_X6_canDoMany_s21_48  m_o m_f m_r g_R g_C m_rl m_lf m_ov x1 else cf_X6_canDoMany_s21_48  m_o m_f m_r g_R g_C m_rl m_lf m_ov (x1 + (1 : Int32)))
def vc_X6_canDoMany_s4_48  (m_o : Int32) (m_f : Int32) (m_r : Int32) (g_R : Nat → Int32) (g_C : Nat → Int32) (m_rl : Int32) (m_lf : Int32) (m_ov : Int32) (x1 : Int32) : Prop :=
  (vc_X6_canDo m_o m_f m_r g_R g_C m_rl m_lf m_ov (48 : Int32) ∧ (((cf_X6_canDo m_o m_f m_r g_R g_C m_rl m_lf m_ov (48 : Int32)) = 0 → vc_X6_canDoMany_s21_48  m_o m_f m_r g_R g_C m_rl m_lf m_ov x1) ∧ (¬ (cf_X6_canDo m_o m_f m_r g_R g_C m_rl m_lf m_ov (48 : Int32)) = 0 → vc_X6_canDoMany_s21_48  m_o m_f m_r g_R g_C m_rl m_lf m_ov (x1 + (1 : Int32)))))
def cf_X6_canDoMany_s21_47  (m_o : Int32) (m_f : Int32) (m_r : Int32) (g_R : Nat → Int32) (g_C : Nat → Int32) (m_rl : Int32) (m_lf : Int32) (m_ov : Int32) (x1 : Int32) : Int32 :=
  cf_X6_canDoMany_s4_48  m_o m_f m_r g_R g_C m_rl m_lf m_ov x1
def vc_X6_canDoMany_s21_47  (m_o : Int32) (m_f : Int32) (m_r : Int32) (g_R : Nat → Int32) (g_C : Nat → Int32) (m_rl : Int32) (m_lf : Int32) (m_ov : Int32) (x1 : Int32) : Prop :=
  vc_X6_canDoMany_s4_48  m_o m_f m_r g_R g_C m_rl m_lf m_ov x1
def cf_X6_canDoMany_s4_47  (m_o : Int32) (m_f : Int32) (m_r : Int32) (g_R : Nat → Int32) (g_C : Nat → Int32) (m_rl : Int32) (m_lf : Int32) (m_ov : Int32) (x1 : Int32) : Int32 :=
  (if (cf_X6_canDo m_o m_f m_r g_R g_C m_rl m_lf m_ov (47 : Int32)) = 0 then cf_X6_canDoMany_s21_47  m_o m_f m_r g_R g_C m_rl m_lf m_ov x1 else cf_X6_canDoMany_s21_47  m_o m_f m_r g_R g_C m_rl m_lf m_ov (x1 + (1 : Int32)))
def vc_X6_canDoMany_s4_47  (m_o : Int32) (m_f : Int32) (m_r : Int32) (g_R : Nat → Int32) (g_C : Nat → Int32) (m_rl : Int32) (m_lf : Int32) (m_ov : Int32) (x1 : Int32) : Prop :=
  (vc_X6_canDo m_o m_f m_r g_R g_C m_rl m_lf m_ov (47 : Int32) ∧ (((cf_X6_canDo m_o m_f m_r g_R g_C m_rl m_lf m_ov (47 : Int32)) = 0 → vc_X6_canDoMany_s21_47  m_o m_f m_r g_R g_C m_rl m_lf m_ov x1) ∧ (¬ (cf_X6_canDo m_o m_f m_r g_R g_C m_rl m_lf m_ov (47 : Int32)) = 0 → vc_X6_canDoMany_s21_47  m_o m_f m_r g_R g_C m_rl m_lf m_ov (x1 + (1 : Int32)))))
def cf_X6_canDoMany_s21_46  (m_o : Int32) (m_f : Int32) (m_r : Int32) (g_R : Nat → Int32) (g_C : Nat → Int32) (m_rl : Int32) (m_lf : Int32) (m_ov : Int32) (x1 : Int32) : Int32 :=
  cf_X6_canDoMany_s4_47  m_o m_f m_r g_R g_C m_rl m_lf m_ov x1
def vc_X6_canDoMany_s21_46  (m_o : Int32) (m_f : Int32) (m_r : Int32) (g_R : Nat → Int32) (g_C : Nat → Int32) (m_rl : Int32) (m_lf : Int32) (m_ov : Int32) (x1 : Int32) : Prop :=
  vc_X6_canDoMany_s4_47  m_o m_f m_r g_R g_C m_rl m_lf m_ov x1
def cf_X6_canDoMany_s4_46  (m_o : Int32) (m_f : Int32) (m_r : Int32) (g_R : Nat → Int32) (g_C : Nat → Int32) (m_rl : Int32) (m_lf : Int32) (m_ov : Int32) (x1 : Int32) : Int32 :=
  (if (cf_X6_canDo m_o m_f m_r g_R g_C m_rl m_lf m_ov (46 : Int32)) = 0 then cf_X6_canDoMany_s21_46  m_o m_f m_r g_R g_C m_rl m_lf m_ov x1 else cf_X6_canDoMany_s21_46  m_o m_f m_r g_R g_C m_rl m_lf m_ov (x1 + (1 : Int32)))
def vc_X6_canDoMany_s4_46  (m_o : Int32) (m_f : Int32) (m_r : Int32) (g_R : Nat → Int32) (g_C : Nat → Int32) (m_rl : Int32) (m_lf : Int32) (m_ov : Int32) (x1 : Int32) : Prop :=
  (vc_X6_canDo m_o m_f m_r g_R g_C m_rl m_lf m_ov (46 : Int32) ∧ (((cf_X6_canDo m_o m_f m_r g_R g_C m_rl m_lf m_ov (46 : Int32)) = 0 → vc_X6_canDoMany_s21_46  m_o m_f m_r g_R g_C m_rl m_lf m_ov x1) ∧ (¬ (cf_X6_canDo m_o m_f m_r g_R g_C m_rl m_lf m_ov (46 : Int32)) = 0 → vc_X6_canDoMany_s21_46  m_o m_f m_r g_R g_C m_rl m_lf m_ov (x1 + (1 : Int32)))))
def cf_X6_canDoMany_s21_45  (m_o : Int32) (m_f : Int32) (m_r : Int32) (g_R : Nat → Int32) (g_C : Nat → Int32) (m_rl : Int32) (m_lf : Int32) (m_ov : Int32) (x1 : Int32) : Int32 :=
  cf_X6_canDoMany_s4_46  m_o m_f m_r g_R g_C m_rl m_lf m_ov x1
def vc_X6_canDoMany_s21_45  (m_o : Int32) (m_f : Int32) (m_r : Int32) (g_R : Nat → Int32) (g_C : Nat → Int32) (m_rl : Int32) (m_lf : Int32) (m_ov : Int32) (x1 : Int32) : Prop :=
  vc_X6_canDoMany_s4_46  m_o m_f m_r g_R g_C m_rl m_lf m_ov x1
def cf_X6_canDoMany_s4_45  (m_o : Int32) (m_f : Int32) (m_r : Int32) (g_R : Nat → Int32) (g_C : Nat → Int32) (m_rl : Int32) (m_lf : Int32) (m_ov : Int32) (x1 : Int32) : Int32 :=
  (if (cf_X6_canDo m_o m_f m_r g_R g_C m_rl m_lf m_ov (45 : Int32)) = 0 then cf_X6_canDoMany_s21_45  m_o m_f m_r g_R g_C m_rl m_lf m_ov x1 else cf_X6_canDoMany_s21_45  m_o m_f m_r g_R g_C m_rl m_lf m_ov (x1 + (1 : Int32)))
def vc_X6_canDoMany_s4_45  (m_o : Int32) (m_f : Int32) (m_r : Int32) (g_R : Nat → Int32) (g_C : Nat → Int32) (m_rl : Int32) (m_lf : Int32) (m_ov : Int32) (x1 : Int32) : Prop :=
  (vc_X6_canDo m_o m_f m_r g_R g_C m_rl m_lf m_ov (45 : Int32) ∧ (((cf_X6_canDo m_o m_f m_r g_R g_C m_rl m_lf m_ov (45 : Int32)) = 0 → vc_X6_canDoMany_s21_45  m_o m_f m_r g_R g_C m_rl m_lf m_ov x1) ∧ (¬ (cf_X6_canDo m_o m_f m_r g_R g_C m_rl m_lf m_ov (45 : Int32)) = 0 → vc_X6_canDoMany_s21_45  m_o m_f m_r g_R g_C m_rl m_lf m_ov (x1 + (1 : Int32)))))
def cf_X6_canDoMany_s21_44  (m_o : Int32) (m_f : Int32) (m_r : Int32) (g_R : Nat → Int32) (g_C : Nat → Int32) (m_rl : Int32) (m_lf : Int32) (m_ov : Int32) (x1 : Int32) : Int32 :=
  cf_X6_canDoMany_s4_45  m_o m_f m_r g_R g_C m_rl m_lf m_ov x1
def vc_X6_canDoMany_s21_44  (m_o : Int32) (m_f : Int32) (m_r : Int32) (g_R : Nat → Int32) (g_C : Nat → Int32) (m_rl : Int32) (m_lf : Int32) (m_ov : Int32) (x1 : Int32) : Prop :=
  vc_X6_canDoMany_s4_45  m_o m_f m_r g_R g_C m_rl m_lf m_ov x1
def cf_X6_canDoMany_s4_44  (m_o : Int32) (m_f : Int32) (m_r : Int32) (g_R : Nat → Int32) (g_C : Nat → Int32) (m_rl : Int32) (m_lf : Int32) (m_ov : Int32) (x1 : Int32) : Int32 :=
  (if (cf_X6_canDo m_o m_f m_r g_R g_C m_rl m_lf m_ov (44 : Int32)) = 0 then cf_X6_canDoMany_s21_44  m_o m_f m_r g_R g_C m_rl m_lf m_ov x1 else cf_X6_canDoMany_s21_44  m_o m_f m_r g_R g_C m_rl m_lf m_ov (x1 + (1 : Int32)))
def vc_X6_canDoMany_s4_44  (m_o : Int32) (m_f : Int32) (m_r : Int32) (g_R : Nat → Int32) (g_C : Nat → Int32) (m_rl : Int32) (m_lf : Int32) (m_ov : Int32) (x1 : Int32) : Prop :=
  (vc_X6_canDo m_o m_f m_r g_R g_C m_rl m_lf m_ov (44 : Int32) ∧ (((cf_X6_canDo m_o m_f m_r g_R g_C m_rl m_lf m_ov (44 : Int32)) = 0 → vc_X6_canDoMany_s21_44  m_o m_f m_r g_R g_C m_rl m_lf m_ov x1) ∧ (¬ (cf_X6_canDo m_o m_f m_r g_R g_C m_rl m_lf m_ov (44 : Int32)) = 0 → vc_X6_canDoMany_s21_44  m_o m_f m_r g_R g_C m_rl m_lf m_ov (x1 + (1 : Int32)))))
def cf_X6_canDoMany_s21_43  (m_o : Int32) (m_f : Int32) (m_r : Int32) (g_R : Nat → Int32) (g_C : Nat → Int32) (m_rl : Int32) (m_lf : Int32) (m_ov : Int32) (x1 : Int32) : Int32 :=
  cf_X6_canDoMany_s4_44  m_o m_f m_r g_R g_C m_rl m_lf m_ov x1
def vc_X6_canDoMany_s21_43  (m_o : Int32) (m_f : Int32) (m_r : Int32) (g_R : Nat → Int32) (g_C : Nat → Int32) (m_rl : Int32) (m_lf : Int32) (m_ov : Int32) (x1 : Int32) : Prop :=
  vc_X6_canDoMany_s4_44  m_o m_f m_r g_R g_C m_rl m_lf m_ov x1
def cf_X6_canDoMany_s4_43  (m_o : Int32) (m_f : Int32) (m_r : Int32) (g_R : Nat → Int32) (g_C : Nat → Int32) (m_rl : Int32) (m_lf : Int32) (m_ov : Int32) (x1 : Int32) : Int32 :=
  (if (cf_X6_canDo m_o m_f m_r g_R g_C m_rl m_lf m_ov (43 : Int32)) = 0 then cf_X6_canDoMany_s21_43  m_o m_f m_r g_R g_C m_rl m_lf m_ov x1 else cf_X6_canDoMany_s21_43  m_o m_f m_r g_R g_C m_rl m_lf m_ov (x1 + (1 : Int32)))
def vc_X6_canDoMany_s4_43  (m_o : Int32) (m_f : Int32) (m_r : Int32) (g_R : Nat → Int32) (g_C : Nat → Int32) (m_rl : Int32) (m_lf : Int32) (m_ov : Int32) (x1 : Int32) : Prop :=
  (vc_X6_canDo m_o m_f m_r g_R g_C m_rl m_lf m_ov (43 : Int32) ∧ (((cf_X6_canDo m_o m_f m_r g_R g_C m_rl m_lf m_ov (43 : Int32)) = 0 → vc_X6_canDoMany_s21_43  m_o m_f m_r g_R g_C m_rl m_lf m_ov x1) ∧ (¬ (cf_X6_canDo m_o m_f m_r g_R g_C m_rl m_lf m_ov (43 : Int32)) = 0 → vc_X6_canDoMany_s21_43  m_o m_f m_r g_R g_C m_rl m_lf m_ov (x1 + (1 : Int32)))))
def cf_X6_canDoMany_s21_42  (m_o : Int32) (m_f : Int32) (m_r : Int32) (g_R : Nat → Int32) (g_C : Nat → Int32) (m_rl : Int32) (m_lf : Int32) (m_ov : Int32) (x1 : Int32) : Int32 :=
  cf_X6_canDoMany_s4_43  m_o m_f m_r g_R g_C m_rl m_lf m_ov x1
def vc_X6_canDoMany_s21_42  (m_o : Int32) (m_f : Int32) (m_r : Int32) (g_R : Nat → Int32) (g_C : Nat → Int32) (m_rl : Int32) (m_lf : Int32) (m_ov : Int32) (x1 : Int32) : Prop :=
  vc_X6_canDoMany_s4_43  m_o m_f m_r g_R g_C m_rl m_lf m_ov x1
def cf_X6_canDoMany_s4_42  (m_o : Int32) (m_f : Int32) (m_r : Int32) (g_R : Nat → Int32) (g_C : Nat → Int32) (m_rl : Int32) (m_lf : Int32) (m_ov : Int32) (x1 : Int32) : Int32 :=
  (if (cf_X6_canDo m_o m_f m_r g_R g_C m_rl m_lf m_ov (42 : Int32)) = 0 then cf_X6_canDoMany_s21_42  m_o m_f m_r g_R g_C m_rl m_lf m_ov x1 else cf_X6_canDoMany_s21_42  m_o m_f m_r g_R g_C m_rl m_lf m_ov (x1 + (1 : Int32)))
def vc_X6_canDoMany_s4_42  (m_o : Int32) (m_f : Int32) (m_r : Int32) (g_R : Nat → Int32) (g_C : Nat → Int32) (m_rl : Int32) (m_lf : Int32) (m_ov : Int32) (x1 : Int32) : Prop :=
  (vc_X6_canDo m_o m_f m_r g_R g_C m_rl m_lf m_ov (42 : Int32) ∧ (((cf_X6_canDo m_o m_f m_r g_R g_C m_rl m_lf m_ov (42 : Int32)) = 0 → vc_X6_canDoMany_s21_42  m_o m_f m_r g_R g_C m_rl m_lf m_ov x1) ∧ (¬ (cf_X6_canDo m_o m_f m_r g_R g_C m_rl m_lf m_ov (42 : Int32)) = 0 → vc_X6_canDoMany_s21_42  m_o m_f m_r g_R g_C m_rl m_lf m_ov (x1 + (1 : Int32)))))
def cf_X6_canDoMany_s21_41  (m_o : Int32) (m_f : Int32) (m_r : Int32) (g_R : Nat → Int32) (g_C : Nat → Int32) (m_rl : Int32) (m_lf : Int32) (m_ov : Int32) (x1 : Int32) : Int32 :=
  cf_X6_canDoMany_s4_42  m_o m_f m_r g_R g_C m_rl m_lf m_ov x1
def vc_X6_canDoMany_s21_41  (m_o : Int32) (m_f : Int32) (m_r : Int32) (g_R : Nat → Int32) (g_C : Nat → Int32) (m_rl : Int32) (m_lf : Int32) (m_ov : Int32) (x1 : Int32) : Prop :=
  vc_X6_canDoMany_s4_42  m_o m_f m_r g_R g_C m_rl m_lf m_ov x1
def cf_X6_canDoMany_s4_41  (m_o : Int32) (m_f : Int32) (m_r : Int32) (g_R : Nat → Int32) (g_C : Nat → Int32) (m_rl : Int32) (m_lf : Int32) (m_ov : Int32) (x1 : Int32) : Int32 :=
  (if (cf_X6_canDo m_o m_f m_r g_R g_C m_rl m_lf m_ov (41 : Int32)) = 0 then cf_X6_canDoMany_s21_41  m_o m_f m_r g_R g_C m_rl m_lf m_ov x1 else cf_X6_canDoMany_s21_41  m_o m_f m_r g_R g_C m_rl m_lf m_ov (x1 + (1 : Int32)))
def vc_X6_canDoMany_s4_41  (m_o : Int32) (m_f : Int32) (m_r : Int32) (g_R : Nat → Int32) (g_C : Nat → Int32) (m_rl : Int32) (m_lf : Int32) (m_ov : Int32) (x1 : Int32) : Prop :=
  (vc_X6_canDo m_o m_f m_r g_R g_C m_rl m_lf m_ov (41 : Int32) ∧ (((cf_X6_canDo m_o m_f m_r g_R g_C m_rl m_lf m_ov (41 : Int32)) = 0 → vc_X6_canDoMany_s21_41  m_o m_f m_r g_R g_C m_rl m_lf m_ov x1) ∧ (¬ (cf_X6_canDo m_o m_f m_r g_R g_C m_rl m_lf m_ov (41 : Int32)) = 0 → vc_X6_canDoMany_s21_41  m_o m_f m_r g_R g_C m_rl m_lf m_ov (x1 + (1 : Int32)))))
def cf_X6_canDoMany_s21_40  (m_o : Int32) (m_f : Int32) (m_r : Int32) (g_R : Nat → Int32) (g_C : Nat → Int32) (m_rl : Int32) (m_lf : Int32) (m_ov : Int32) (x1 : Int32) : Int32 :=
  cf_X6_canDoMany_s4_41  m_o m_f m_r g_R g_C m_rl m_lf m_ov x1
def vc_X6_canDoMany_s21_40  (m_o : Int32) (m_f : Int32) (m_r : Int32) (g_R : Nat → Int32) (g_C : Nat → Int32) (m_rl : Int32) (m_lf : Int32) (m_ov : Int32) (x1 : Int32) : Prop :=
  vc_X6_canDoMany_s4_41  m_o m_f m_r g_R g_C m_rl m_lf m_ov x1
def cf_X6_canDoMany_s4_40  (m_o : Int32) (m_f : Int32) (m_r : Int32) (g_R : Nat → Int32) (g_C : Nat → Int32) (m_rl : Int32) (m_lf : Int32) (m_ov : Int32) (x1 : Int32) : Int32 :=
  (if (cf_X6_canDo m_o m_f m_r g_R g_C m_rl m_lf m_ov (40 : Int32)) = 0 then cf_X6_canDoMany_s21_40  m_o m_f m_r g_R g_C m_rl m_lf m_ov x1 else cf_X6_canDoMany_s21_40  m_o m_f m_r g_R g_C m_rl m_lf m_ov (x1 + (1 : Int32)))
def vc_X6_canDoMany_s4_40  (m_o : Int32) (m_f : Int32) (m_r : Int32) (g_R : Nat → Int32) (g_C : Nat → Int32) (m_rl : Int32) (m_lf : Int32) (m_ov : Int32) (x1 : Int32) : Prop :=
  (vc_X6_canDo m_o m_f m_r g_R g_C m_rl m_lf m_ov (40 : Int32) ∧ (((cf_X6_canDo m_o m_f m_r g_R g_C m_rl m_lf m_ov (40 : Int32)) = 0 → vc_X6_canDoMany_s21_40  m_o m_f m_r g_R g_C m_rl m_lf m_ov x1) ∧ (¬ (cf_X6_canDo m_o m_f m_r g_R g_C m_rl m_lf m_ov (40 : Int32)) = 0 → vc_X6_canDoMany_s21_40  m_o m_f m_r g_R g_C m_rl m_lf m_ov (x1 + (1 : Int32)))))
def cf_X6_canDoMany_s21_39  (m_o : Int32) (m_f : Int32) (m_r : Int32) (g_R : Nat → Int32) (g_C : Nat → Int32) (m_rl : Int32) (m_lf : Int32) (m_ov : Int32) (x1 : Int32) : Int32 :=
  cf_X6_canDoMany_s4_40  m_o m_f m_r g_R g_C m_rl m_lf m_ov x1
def vc_X6_canDoMany_s21_39  (m_o : Int32) (m_f : Int32) (m_r : Int32) (g_R : Nat → Int32) (g_C : Nat → Int32) (m_rl : Int32) (m_lf : Int32) (m_ov : Int32) (x1 : Int32) : Prop :=
  vc_X6_canDoMany_s4_40  m_o m_f m_r g_R g_C m_rl m_lf m_ov x1
def cf_X6_canDoMany_s4_39  (m_o : Int32) (m_f : Int32) (m_r : Int32) (g_R : Nat → Int32) (g_C : Nat → Int32) (m_rl : Int32) (m_lf : Int32) (m_ov : Int32) (x1 : Int32) : Int32 :=
  (if (cf_X6_canDo m_o m_f m_r g_R g_C m_rl m_lf m_ov (39 : Int32)) = 0 then cf_X6_canDoMany_s21_39  m_o m_f m_r g_R g_C m_rl m_lf m_ov x1 else cf_X6_canDoMany_s21_39  m_o m_f m_r g_R g_C m_rl m_lf m_ov (x1 + (1 : Int32)))
def vc_X6_canDoMany_s4_39  (m_o : Int32) (m_f : Int32) (m_r : Int32) (g_R : Nat → Int32) (g_C : Nat → Int32) (m_rl : Int32) (m_lf : Int32) (m_ov : Int32) (x1 : Int32) : Prop :=
  (vc_X6_canDo m_o m_f m_r g_R g_C m_rl m_lf m_ov (39 : Int32) ∧ (((cf_X6_canDo m_o m_f m_r g_R g_C m_rl m_lf m_ov (39 : Int32)) = 0 → vc_X6_canDoMany_s21_39  m_o m_f m_r g_R g_C m_rl m_lf m_ov x1) ∧ (¬ (cf_X6_canDo m_o m_f m_r g_R g_C m_rl m_lf m_ov (39 : Int32)) = 0 → vc_X6_canDoMany_s21_39  m_o m_f m_r g_R g_C m_rl m_lf m_ov (x1 + (1 : Int32)))))
def cf_X6_canDoMany_s21_38  (m_o : Int32) (m_f : Int32) (m_r : Int32) (g_R : Nat → Int32) (g_C : Nat → Int32) (m_rl : Int32) (m_lf : Int32) (m_ov : Int32) (x1 : Int32) : Int32 :=
  cf_X6_canDoMany_s4_39  m_o m_f m_r g_R g_C m_rl m_lf m_ov x1
def vc_X6_canDoMany_s21_38  (m_o : Int32) (m_f : Int32) (m_r : Int32) (g_R : Nat → Int32) (g_C : Nat → Int32) (m_rl : Int32) (m_lf : Int32) (m_ov : Int32) (x1 : Int32) : Prop :=
  vc_X6_canDoMany_s4_39  m_o m_f m_r g_R g_C m_rl m_lf m_ov x1
def cf_X6_canDoMany_s4_38  (m_o : Int32) (m_f : Int32) (m_r : Int32) (g_R : Nat → Int32) (g_C : Nat → Int32) (m_rl : Int32) (m_lf : Int32) (m_ov : Int32) (x1 : Int32) : Int32 :=
  (if (cf_X6_canDo m_o m_f m_r g_R g_C m_rl m_lf m_ov (38 : Int32)) = 0 then cf_X6_canDoMany_s21_38  m_o m_f m_r g_R g_C m_rl m_lf m_ov x1 else cf_X6_canDoMany_s21_38  m_o m_f m_r g_R g_C m_rl m_lf m_ov (x1 + (1 : Int32)))
def vc_X6_canDoMany_s4_38  (m_o : Int32) (m_f : Int32) (m_r : Int32) (g_R : Nat → Int32) (g_C : Nat → Int32) (m_rl : Int32) (m_lf : Int32) (m_ov : Int32) (x1 : Int32) : Prop :=
  (vc_X6_canDo m_o m_f m_r g_R g_C m_rl m_lf m_ov (38 : Int32) ∧ (((cf_X6_canDo m_o m_f m_r g_R g_C m_rl m_lf m_ov (38 : Int32)) = 0 → vc_X6_canDoMany_s21_38  m_o m_f m_r g_R g_C m_rl m_lf m_ov x1) ∧ (¬ (cf_X6_canDo m_o m_f m_r g_R g_C m_rl m_lf m_ov (38 : Int32)) = 0 → vc_X6_canDoMany_s21_38  m_o m_f m_r g_R g_C m_rl m_lf m_ov (x1 + (1 : Int32)))))
def cf_X6_canDoMany_s21_37  (m_o : Int32) (m_f : Int32) (m_r : Int32) (g_R : Nat → Int32) (g_C : Nat → Int32) (m_rl : Int32) (m_lf : Int32) (m_ov : Int32) (x1 : Int32) : Int32 :=
  cf_X6_canDoMany_s4_38  m_o m_f m_r g_R g_C m_rl m_lf m_ov x1
def vc_X6_canDoMany_s21_37  (m_o : Int32) (m_f : Int32) (m_r : Int32) (g_R : Nat → Int32) (g_C : Nat → Int32) (m_rl : Int32) (m_lf : Int32) (m_ov : Int32) (x1 : Int32) : Prop :=
  vc_X6_canDoMany_s4_38  m_o m_f m_r g_R g_C m_rl m_lf m_ov x1
def cf_X6_canDoMany_s4_37  (m_o : Int32) (m_f : Int32) (m_r : Int32) (g_R : Nat → Int32) (g_C : Nat → Int32) (m_rl : Int32) (m_lf : Int32) (m_ov : Int32) (x1 : Int32) : Int32 :=
  (if (cf_X6_canDo m_o m_f m_r g_R g_C m_rl m_lf m_ov (37 : Int32)) = 0 then cf_X6_canDoMany_s21_37  m_o m_f m_r g_R g_C m_rl m_lf m_ov x1 else cf_X6_canDoMany_s21_37  m_o m_f m_r g_R g_C m_rl m_lf m_ov (x1 + (1 : Int32)))
def vc_X6_canDoMany_s4_37  (m_o : Int32) (m_f : Int32) (m_r : Int32) (g_R : Nat → Int32) (g_C : Nat → Int32) (m_rl : Int32) (m_lf : Int32) (m_ov : Int32) (x1 : Int32) : Prop :=
  (vc_X6_canDo m_o m_f m_r g_R g_C m_rl m_lf m_ov (37 : Int32) ∧ (((cf_X6_canDo m_o m_f m_r g_R g_C m_rl m_lf m_ov (37 : Int32)) = 0 → vc_X6_canDoMany_s21_37  m_o m_f m_r g_R g_C m_rl m_lf m_ov x1) ∧ (¬ (cf_X6_canDo m_o m_f m_r g_R g_C m_rl m_lf m_ov (37 : Int32)) = 0 → vc_X6_canDoMany_s21_37  m_o m_f m_r g_R g_C m_rl m_lf m_ov (x1 + (1 : Int32)))))
def cf_X6_canDoMany_s21_36  (m_o : Int32) (m_f : Int32) (m_r : Int32) (g_R : Nat → Int32) (g_C : Nat → Int32) (m_rl : Int32) (m_lf : Int32) (m_ov : Int32) (x1 : Int32) : Int32 :=
  cf_X6_canDoMany_s4_37  m_o m_f m_r g_R g_C m_rl m_lf m_ov x1
def vc_X6_canDoMany_s21_36  (m_o : Int32) (m_f : Int32) (m_r : Int32) (g_R : Nat → Int32) (g_C : Nat → Int32) (m_rl : Int32) (m_lf : Int32) (m_ov : Int32) (x1 : Int32) : Prop :=
  vc_X6_canDoMany_s4_37  m_o m_f m_r g_R g_C m_rl m_lf m_ov x1
def cf_X6_canDoMany_s4_36  (m_o : Int32) (m_f : Int32) (m_r : Int32) (g_R : Nat → Int32) (g_C : Nat → Int32) (m_rl : Int32) (m_lf : Int32) (m_ov : Int32) (x1 : Int32) : Int32 :=
  (if (cf_X6_canDo m_o m_f m_r g_R g_C m_rl m_lf m_ov (36 : Int32)) = 0 then cf_X6_canDoMany_s21_36  m_o m_f m_r g_R g_C m_rl m_lf m_ov x1 else cf_X6_canDoMany_s21_36  m_o m_f m_r g_R g_C m_rl m_lf m_ov (x1 + (1 : Int32)))
def vc_X6_canDoMany_s4_36  (m_o : Int32) (m_f : Int32) (m_r : Int32) (g_R : Nat → Int32) (g_C : Nat → Int32) (m_rl : Int32) (m_lf : Int32) (m_ov : Int32) (x1 : Int32) : Prop :=
  (vc_X6_canDo m_o m_f m_r g_R g_C m_rl m_lf m_ov (36 : Int32) ∧ (((cf_X6_canDo m_o m_f m_r g_R g_C m_rl m_lf m_ov (36 : Int32)) = 0 → vc_X6_canDoMany_s21_36  m_o m_f m_r g_R g_C m_rl m_lf m_ov x1) ∧ (¬ (cf_X6_canDo m_o m_f m_r g_R g_C m_rl m_lf m_ov (36 : Int32)) = 0 → vc_X6_canDoMany_s21_36  m_o m_f m_r g_R g_C m_rl m_lf m_ov (x1 + (1 : Int32)))))
def cf_X6_canDoMany_s21_35  (m_o : Int32) (m_f : Int32) (m_r : Int32) (g_R : Nat → Int32) (g_C : Nat → Int32) (m_rl : Int32) (m_lf : Int32) (m_ov : Int32) (x1 : Int32) : Int32 :=
  cf_X6_canDoMany_s4_36  m_o m_f m_r g_R g_C m_rl m_lf m_ov x1
def vc_X6_canDoMany_s21_35  (m_o : Int32) (m_f : Int32) (m_r : Int32) (g_R : Nat → Int32) (g_C : Nat → Int32) (m_rl : Int32) (m_lf : Int32) (m_ov : Int32) (x1 : Int32) : Prop :=
  vc_X6_canDoMany_s4_36  m_o m_f m_r g_R g_C m_rl m_lf m_ov x1
def cf_X6_canDoMany_s4_35  (m_o : Int32) (m_f : Int32) (m_r : Int32) (g_R : Nat → Int32) (g_C : Nat → Int32) (m_rl : Int32) (m_lf : Int32) (m_ov : Int32) (x1 : Int32) : Int32 :=
  (if (cf_X6_canDo m_o m_f m_r g_R g_C m_rl m_lf m_ov (35 : Int32)) = 0 then cf_X6_canDoMany_s21_35  m_o m_f m_r g_R g_C m_rl m_lf m_ov x1 else cf_X6_canDoMany_s21_35  m_o m_f m_r g_R g_C m_rl m_lf m_ov (x1 + (1 : Int32)))
def vc_X6_canDoMany_s4_35  (m_o : Int32) (m_f : Int32) (m_r : Int32) (g_R : Nat → Int32) (g_C : Nat → Int32) (m_rl : Int32) (m_lf : Int32) (m_ov : Int32) (x1 : Int32) : Prop :=
  (vc_X6_canDo m_o m_f m_r g_R g_C m_rl m_lf m_ov (35 : Int32) ∧ (((cf_X6_canDo m_o m_f m_r g_R g_C m_rl m_lf m_ov (35 : Int32)) = 0 → vc_X6_canDoMany_s21_35  m_o m_f m_r g_R g_C m_rl m_lf m_ov x1) ∧ (¬ (cf_X6_canDo m_o m_f m_r g_R g_C m_rl m_lf m_ov (35 : Int32)) = 0 → vc_X6_canDoMany_s21_35  m_o m_f m_r g_R g_C m_rl m_lf m_ov (x1 + (1 : Int32)))))
def cf_X6_canDoMany_s21_34  (m_o : Int32) (m_f : Int32) (m_r : Int32) (g_R : Nat → Int32) (g_C : Nat → Int32) (m_rl : Int32) (m_lf : Int32) (m_ov : Int32) (x1 : Int32) : Int32 :=
  cf_X6_canDoMany_s4_35  m_o m_f m_r g_R g_C m_rl m_lf m_ov x1
def vc_X6_canDoMany_s21_34  (m_o : Int32) (m_f : Int32) (m_r : Int32) (g_R : Nat → Int32) (g_C : Nat → Int32) (m_rl : Int32) (m_lf : Int32) (m_ov : Int32) (x1 : Int32) : Prop :=
  vc_X6_canDoMany_s4_35  m_o m_f m_r g_R g_C m_rl m_lf m_ov x1
def cf_X6_canDoMany_s4_34  (m_o : Int32) (m_f : Int32) (m_r : Int32) (g_R : Nat → Int32) (g_C : Nat → Int32) (m_rl : Int32) (m_lf : Int32) (m_ov : Int32) (x1 : Int32) : Int32 :=
  (if (cf_X6_canDo m_o m_f m_r g_R g_C m_rl m_lf m_ov (34 : Int32)) = 0 then cf_X6_canDoMany_s21_34  m_o m_f m_r g_R g_C m_rl m_lf m_ov x1 else cf_X6_canDoMany_s21_34  m_o m_f m_r g_R g_C m_rl m_lf m_ov (x1 + (1 : Int32)))
def vc_X6_canDoMany_s4_34  (m_o : Int32) (m_f : Int32) (m_r : Int32) (g_R : Nat → Int32) (g_C : Nat → Int32) (m_rl : Int32) (m_lf : Int32) (m_ov : Int32) (x1 : Int32) : Prop :=
  (vc_X6_canDo m_o m_f m_r g_R g_C m_rl m_lf m_ov (34 : Int32) ∧ (((cf_X6_canDo m_o m_f m_r g_R g_C m_rl m_lf m_ov (34 : Int32)) = 0 → vc_X6_canDoMany_s21_34  m_o m_f m_r g_R g_C m_rl m_lf m_ov x1) ∧ (¬ (cf_X6_canDo m_o m_f m_r g_R g_C m_rl m_lf m_ov (34 : Int32)) = 0 → vc_X6_canDoMany_s21_34  m_o m_f m_r g_R g_C m_rl m_lf m_ov (x1 + (1 : Int32)))))
def cf_X6_canDoMany_s21_33  (m_o : Int32) (m_f : Int32) (m_r : Int32) (g_R : Nat → Int32) (g_C : Nat → Int32) (m_rl : Int32) (m_lf : Int32) (m_ov : Int32) (x1 : Int32) : Int32 :=
  cf_X6_canDoMany_s4_34  m_o m_f m_r g_R g_C m_rl m_lf m_ov x1
def vc_X6_canDoMany_s21_33  (m_o : Int32) (m_f : Int32) (m_r : Int32) (g_R : Nat → Int32) (g_C : Nat → Int32) (m_rl : Int32) (m_lf : Int32) (m_ov : Int32) (x1 : Int32) : Prop :=
  vc_X6_canDoMany_s4_34  m_o m_f m_r g_R g_C m_rl m_lf m_ov x1
def cf_X6_canDoMany_s4_33  (m_o : Int32) (m_f : Int32) (m_r : Int32) (g_R : Nat → Int32) (g_C : Nat → Int32) (m_rl : Int32) (m_lf : Int32) (m_ov : Int32) (x1 : Int32) : Int32 :=
  (if (cf_X6_canDo m_o m_f m_r g_R g_C m_rl m_lf m_ov (33 : Int32)) = 0 then cf_X6_canDoMany_s21_33  m_o m_f m_r g_R g_C m_rl m_lf m_ov x1 else cf_X6_canDoMany_s21_33  m_o m_f m_r g_R g_C m_rl m_lf m_ov (x1 + (1 : Int32)))
def vc_X6_canDoMany_s4_33  (m_o : Int32) (m_f : Int32) (m_r : Int32) (g_R : Nat → Int32) (g_C : Nat → Int32) (m_rl : Int32) (m_lf : Int32) (m_ov : Int32) (x1 : Int32) : Prop :=
  (vc_X6_canDo m_o m_f m_r g_R g_C m_rl m_lf m_ov (33 : Int32) ∧ (((cf_X6_canDo m_o m_f m_r g_R g_C m_rl m_lf m_ov (33 : Int32)) = 0 → vc_X6_canDoMany_s21_33  m_o m_f m_r g_R g_C m_rl m_lf m_ov x1) ∧ (¬ (cf_X6_canDo m_o m_f m_r g_R g_C m_rl m_lf m_ov (33 : Int32)) = 0 → vc_X6_canDoMany_s21_33  m_o m_f m_r g_R g_C m_rl m_lf m_ov (x1 + (1 : Int32)))))
def cf_X6_canDoMany_s21_32  (m_o : Int32) (m_f : Int32) (m_r : Int32) (g_R : Nat → Int32) (g_C : Nat → Int32) (m_rl : Int32) (m_lf : Int32) (m_ov : Int32) (x1 : Int32) : Int32 :=
  cf_X6_canDoMany_s4_33  m_o m_f m_r g_R g_C m_rl m_lf m_ov x1
def vc_X6_canDoMany_s21_32  (m_o : Int32) (m_f : Int32) (m_r : Int32) (g_R : Nat → Int32) (g_C : Nat → Int32) (m_rl : Int32) (m_lf : Int32) (m_ov : Int32) (x1 : Int32) : Prop :=
  vc_X6_canDoMany_s4_33  m_o m_f m_r g_R g_C m_rl m_lf m_ov x1
def cf_X6_canDoMany_s4_32  (m_o : Int32) (m_f : Int32) (m_r : Int32) (g_R : Nat → Int32) (g_C : Nat → Int32) (m_rl : Int32) (m_lf : Int32) (m_ov : Int32) (x1 : Int32) : Int32 :=
  (if (cf_X6_canDo m_o m_f m_r g_R g_C m_rl m_lf m_ov (32 : Int32)) = 0 then cf_X6_canDoMany_s21_32  m_o m_f m_r g_R g_C m_rl m_lf m_ov x1 else cf_X6_canDoMany_s21_32  m_o m_f m_r g_R g_C m_rl m_lf m_ov (x1 + (1 : Int32)))
def vc_X6_canDoMany_s4_32  (m_o : Int32) (m_f : Int32) (m_r : Int32) (g_R : Nat → Int32) (g_C : Nat → Int32) (m_rl : Int32) (m_lf : Int32) (m_ov : Int32) (x1 : Int32) : Prop :=
  (vc_X6_canDo m_o m_f m_r g_R g_C m_rl m_lf m_ov (32 : Int32) ∧ (((cf_X6_canDo m_o m_f m_r g_R g_C m_rl m_lf m_ov (32 : Int32)) = 0 → vc_X6_canDoMany_s21_32  m_o m_f m_r g_R g_C m_rl m_lf m_ov x1) ∧ (¬ (cf_X6_canDo m_o m_f m_r g_R g_C m_rl m_lf m_ov (32 : Int32)) = 0 → vc_X6_canDoMany_s21_32  m_o m_f m_r g_R g_C m_rl m_lf m_ov (x1 + (1 : Int32)))))
def cf_X6_canDoMany_s21_31  (m_o : Int32) (m_f : Int32) (m_r : Int32) (g_R : Nat → Int32) (g_C : Nat → Int32) (m_rl : Int32) (m_lf : Int32) (m_ov : Int32) (x1 : Int32) : Int32 :=
  cf_X6_canDoMany_s4_32  m_o m_f m_r g_R g_C m_rl m_lf m_ov x1
def vc_X6_canDoMany_s21_31  (m_o : Int32) (m_f : Int32) (m_r : Int32) (g_R : Nat → Int32) (g_C : Nat → Int32) (m_rl : Int32) (m_lf : Int32) (m_ov : Int32) (x1 : Int32) : Prop :=
  vc_X6_canDoMany_s4_32  m_o m_f m_r g_R g_C m_rl m_lf m_ov x1
def cf_X6_canDoMany_s4_31  (m_o : Int32) (m_f : Int32) (m_r : Int32) (g_R : Nat → Int32) (g_C : Nat → Int32) (m_rl : Int32) (m_lf : Int32) (m_ov : Int32) (x1 : Int32) : Int32 :=
  (if (cf_X6_canDo m_o m_f m_r g_R g_C m_rl m_lf m_ov (31 : Int32)) = 0 then cf_X6_canDoMany_s21_31  m_o m_f m_r g_R g_C m_rl m_lf m_ov x1 else cf_X6_canDoMany_s21_31  m_o m_f m_r g_R g_C m_rl m_lf m_ov (x1 + (1 : Int32)))
def vc_X6_canDoMany_s4_31  (m_o : Int32) (m_f : Int32) (m_r : Int32) (g_R : Nat → Int32) (g_C : Nat → Int32) (m_rl : Int32) (m_lf : Int32) (m_ov : Int32) (x1 : Int32) : Prop :=
  (vc_X6_canDo m_o m_f m_r g_R g_C m_rl m_lf m_ov (31 : Int32) ∧ (((cf_X6_canDo m_o m_f m_r g_R g_C m_rl m_lf m_ov (31 : Int32)) = 0 → vc_X6_canDoMany_s21_31  m_o m_f m_r g_R g_C m_rl m_lf m_ov x1) ∧ (¬ (cf_X6_canDo m_o m_f m_r g_R g_C m_rl m_lf m_ov (31 : Int32)) = 0 → vc_X6_canDoMany_s21_31  m_o m_f m_r g_R g_C m_rl m_lf m_ov (x1 + (1 : Int32)))))
def cf_X6_canDoMany_s21_30  (m_o : Int32) (m_f : Int32) (m_r : Int32) (g_R : Nat → Int32) (g_C : Nat → Int32) (m_rl : Int32) (m_lf : Int32) (m_ov : Int32) (x1 : Int32) : Int32 :=
  cf_X6_canDoMany_s4_31  m_o m_f m_r g_R g_C m_rl m_lf m_ov x1
def vc_X6_canDoMany_s21_30  (m_o : Int32) (m_f : Int32) (m_r : Int32) (g_R : Nat → Int32) (g_C : Nat → Int32) (m_rl : Int32) (m_lf : Int32) (m_ov : Int32) (x1 : Int32) : Prop :=
  vc_X6_canDoMany_s4_31  m_o m_f m_r g_R g_C m_rl m_lf m_ov x1
def cf_X6_canDoMany_s4_30  (m_o : Int32) (m_f : Int32) (m_r : Int32) (g_R : Nat → Int32) (g_C : Nat → Int32) (m_rl : Int32) (m_lf : Int32) (m_ov : Int32) (x1 : Int32) : Int32 :=
  (if (cf_X6_canDo m_o m_f m_r g_R g_C m_rl m_lf m_ov (30 : Int32)) = 0 then cf_X6_canDoMany_s21_30  m_o m_f m_r g_R g_C m_rl m_lf m_ov x1 else cf_X6_canDoMany_s21_30  m_o m_f m_r g_R g_C m_rl m_lf m_ov (x1 + (1 : Int32)))
def vc_X6_canDoMany_s4_30  (m_o : Int32) (m_f : Int32) (m_r : Int32) (g_R : Nat → Int32) (g_C : Nat → Int32) (m_rl : Int32) (m_lf : Int32) (m_ov : Int32) (x1 : Int32) : Prop :=
  (vc_X6_canDo m_o m_f m_r g_R g_C m_rl m_lf m_ov (30 : Int32) ∧ (((cf_X6_canDo m_o m_f m_r g_R g_C m_rl m_lf m_ov (30 : Int32)) = 0 → vc_X6_canDoMany_s21_30  m_o m_f m_r g_R g_C m_rl m_lf m_ov x1) ∧ (¬ (cf_X6_canDo m_o m_f m_r g_R g_C m_rl m_lf m_ov (30 : Int32)) = 0 → vc_X6_canDoMany_s21_30  m_o m_f m_r g_R g_C m_rl m_lf m_ov (x1 + (1 : Int32)))))
def cf_X6_canDoMany_s21_29  (m_o : Int32) (m_f : Int32) (m_r : Int32) (g_R : Nat → Int32) (g_C : Nat → Int32) (m_rl : Int32) (m_lf : Int32) (m_ov : Int32) (x1 : Int32) : Int32 :=
  cf_X6_canDoMany_s4_30  m_o m_f m_r g_R g_C m_rl m_lf m_ov x1
def vc_X6_canDoMany_s21_29  (m_o : Int32) (m_f : Int32) (m_r : Int32) (g_R : Nat → Int32) (g_C : Nat → Int32) (m_rl : Int32) (m_lf : Int32) (m_ov : Int32) (x1 : Int32) : Prop :=
  vc_X6_canDoMany_s4_30  m_o m_f m_r g_R g_C m_rl m_lf m_ov x1
def cf_X6_canDoMany_s4_29  (m_o : Int32) (m_f : Int32) (m_r : Int32) (g_R : Nat → Int32) (g_C : Nat → Int32) (m_rl : Int32) (m_lf : Int32) (m_ov : Int32) (x1 : Int32) : Int32 :=
  (if (cf_X6_canDo m_o m_f m_r g_R g_C m_rl m_lf m_ov (29 : Int32)) = 0 then cf_X6_canDoMany_s21_29  m_o m_f m_r g_R g_C m_rl m_lf m_ov x1 else cf_X6_canDoMany_s21_29  m_o m_f m_r g_R g_C m_rl m_lf m_ov (x1 + (1 : Int32)))
def vc_X6_canDoMany_s4_29  (m_o : Int32) (m_f : Int32) (m_r : Int32) (g_R : Nat → Int32) (g_C : Nat → Int32) (m_rl : Int32) (m_lf : Int32) (m_ov : Int32) (x1 : Int32) : Prop :=
  (vc_X6_canDo m_o m_f m_r g_R g_C m_rl m_lf m_ov (29 : Int32) ∧ (((cf_X6_canDo m_o m_f m_r g_R g_C m_rl m_lf m_ov (29 : Int32)) = 0 → vc_X6_canDoMany_s21_29  m_o m_f m_r g_R g_C m_rl m_lf m_ov x1) ∧ (¬ (cf_X6_canDo m_o m_f m_r g_R g_C m_rl m_lf m_ov (29 : Int32)) = 0 → vc_X6_canDoMany_s21_29  m_o m_f m_r g_R g_C m_rl m_lf m_ov (x1 + (1 : Int32)))))
def cf_X6_canDoMany_s21_28  (m_o : Int32) (m_f : Int32) (m_r : Int32) (g_R : Nat → Int32) (g_C : Nat → Int32) (m_rl : Int32) (m_lf : Int32) (m_ov : Int32) (x1 : Int32) : Int32 :=
  cf_X6_canDoMany_s4_29  m_o m_f m_r g_R g_C m_rl m_lf m_ov x1
def vc_X6_canDoMany_s21_28  (m_o : Int32) (m_f : Int32) (m_r : Int32) (g_R : Nat → Int32) (g_C : Nat → Int32) (m_rl : Int32) (m_lf : Int32) (m_ov : Int32) (x1 : Int32) : Prop :=
  vc_X6_canDoMany_s4_29  m_o m_f m_r g_R g_C m_rl m_lf m_ov x1
def cf_X6_canDoMany_s4_28  (m_o : Int32) (m_f : Int32) (m_r : Int32) (g_R : Nat → Int32) (g_C : Nat → Int32) (m_rl : Int32) (m_lf : Int32) (m_ov : Int32) (x1 : Int32) : Int32 :=
  (if (cf_X6_canDo m_o m_f m_r g_R g_C m_rl m_lf m_ov (28 : Int32)) = 0 then cf_X6_canDoMany_s21_28  m_o m_f m_r g_R g_C m_rl m_lf m_ov x1 else cf_X6_canDoMany_s21_28  m_o m_f m_r g_R g_C m_rl m_lf m_ov (x1 + (1 : Int32)))
def vc_X6_canDoMany_s4_28  (m_o : Int32) (m_f : Int32) (m_r : Int32) (g_R : Nat → Int32) (g_C : Nat → Int32) (m_rl : Int32) (m_lf : Int32) (m_ov : Int32) (x1 : Int32) : Prop :=
  (vc_X6_canDo m_o m_f m_r g_R g_C m_rl m_lf m_ov (28 : Int32) ∧ (((cf_X6_canDo m_o m_f m_r g_R g_C m_rl m_lf m_ov (28 : Int32)) = 0 → vc_X6_canDoMany_s21_28  m_o m_f m_r g_R g_C m_rl m_lf m_ov x1) ∧ (¬ (cf_X6_canDo m_o m_f m_r g_R g_C m_rl m_lf m_ov (28 : Int32)) = 0 → vc_X6_canDoMany_s21_28  m_o m_f m_r g_R g_C m_rl m_lf m_ov (x1 + (1 : Int32)))))
def cf_X6_canDoMany_s21_27  (m_o : Int32) (m_f : Int32) (m_r : Int32) (g_R : Nat → Int32) (g_C : Nat → Int32) (m_rl : Int32) (m_lf : Int32) (m_ov : Int32) (x1 : Int32) : Int32 :=
  cf_X6_canDoMany_s4_28  m_o m_f m_r g_R g_C m_rl m_lf m_ov x1
def vc_X6_canDoMany_s21_27  (m_o : Int32) (m_f : Int32) (m_r : Int32) (g_R : Nat → Int32) (g_C : Nat → Int32) (m_rl : Int32) (m_lf : Int32) (m_ov : Int32) (x1 : Int32) : Prop :=
  vc_X6_canDoMany_s4_28  m_o m_f m_r g_R g_C m_rl m_lf m_ov x1
def cf_X6_canDoMany_s4_27  (m_o : Int32) (m_f : Int32) (m_r : Int32) (g_R : Nat → Int32) (g_C : Nat → Int32) (m_rl : Int32) (m_lf : Int32) (m_ov : Int32) (x1 : Int32) : Int32 :=
  (if (cf_X6_canDo m_o m_f m_r g_R g_C m_rl m_lf m_ov (27 : Int32)) = 0 then cf_X6_canDoMany_s21_27  m_o m_f m_r g_R g_C m_rl m_lf m_ov x1 else cf_X6_canDoMany_s21_27  m_o m_f m_r g_R g_C m_rl m_lf m_ov (x1 + (1 : Int32)))
def vc_X6_canDoMany_s4_27  (m_o : Int32) (m_f : Int32) (m_r : Int32) (g_R : Nat → Int32) (g_C : Nat → Int32) (m_rl : Int32) (m_lf : Int32) (m_ov : Int32) (x1 : Int32) : Prop :=
  (vc_X6_canDo m_o m_f m_r g_R g_C m_rl m_lf m_ov (27 : Int32) ∧ (((cf_X6_canDo m_o m_f m_r g_R g_C m_rl m_lf m_ov (27 : Int32)) = 0 → vc_X6_canDoMany_s21_27  m_o m_f m_r g_R g_C m_rl m_lf m_ov x1) ∧ (¬ (cf_X6_canDo m_o m_f m_r g_R g_C m_rl m_lf m_ov (27 : Int32)) = 0 → vc_X6_canDoMany_s21_27  m_o m_f m_r g_R g_C m_rl m_lf m_ov (x1 + (1 : Int32)))))
def cf_X6_canDoMany_s21_26  (m_o : Int32) (m_f : Int32) (m_r : Int32) (g_R : Nat → Int32) (g_C : Nat → Int32) (m_rl : Int32) (m_lf : Int32) (m_ov : Int32) (x1 : Int32) : Int32 :=
  cf_X6_canDoMany_s4_27  m_o m_f m_r g_R g_C m_rl m_lf m_ov x1
def vc_X6_canDoMany_s21_26  (m_o : Int32) (m_f : Int32) (m_r : Int32) (g_R : Nat → Int32) (g_C : Nat → Int32) (m_rl : Int32) (m_lf : Int32) (m_ov : Int32) (x1 : Int32) : Prop :=
  vc_X6_canDoMany_s4_27  m_o m_f m_r g_R g_C m_rl m_lf m_ov x1
def cf_X6_canDoMany_s4_26  (m_o : Int32) (m_f : Int32) (m_r : Int32) (g_R : Nat → Int32) (g_C : Nat → Int32) (m_rl : Int32) (m_lf : Int32) (m_ov : Int32) (x1 : Int32) : Int32 :=
  (if (cf_X6_canDo m_o m_f m_r g_R g_C m_rl m_lf m_ov (26 : Int32)) = 0 then cf_X6_canDoMany_s21_26  m_o m_f m_r g_R g_C m_rl m_lf m_ov x1 else cf_X6_canDoMany_s21_26  m_o m_f m_r g_R g_C m_rl m_lf m_ov (x1 + (1 : Int32)))
def vc_X6_canDoMany_s4_26  (m_o : Int32) (m_f : Int32) (m_r : Int32) (g_R : Nat → Int32) (g_C : Nat → Int32) (m_rl : Int32) (m_lf : Int32) (m_ov : Int32) (x1 : Int32) : Prop :=
  (vc_X6_canDo m_o m_f m_r g_R g_C m_rl m_lf m_ov (26 : Int32) ∧ (((cf_X6_canDo m_o m_f m_r g_R g_C m_rl m_lf m_ov (26 : Int32)) = 0 → vc_X6_canDoMany_s21_26  m_o m_f m_r g_R g_C m_rl m_lf m_ov x1) ∧ (¬ (cf_X6_canDo m_o m_f m_r g_R g_C m_rl m_lf m_ov (26 : Int32)) = 0 → vc_X6_canDoMany_s21_26  m_o m_f m_r g_R g_C m_rl m_lf m_ov (x1 + (1 : Int32)))))
def cf_X6_canDoMany_s21_25  (m_o : Int32) (m_f : Int32) (m_r : Int32) (g_R : Nat → Int32) (g_C : Nat → Int32) (m_rl : Int32) (m_lf : Int32) (m_ov : Int32) (x1 : Int32) : Int32 :=
  cf_X6_canDoMany_s4_26  m_o m_f m_r g_R g_C m_rl m_lf m_ov x1
def vc_X6_canDoMany_s21_25  (m_o : Int32) (m_f : Int32) (m_r : Int32) (g_R : Nat → Int32) (g_C : Nat → Int32) (m_rl : Int32) (m_lf : Int32) (m_ov : Int32) (x1 : Int32) : Prop :=
  vc_X6_canDoMany_s4_26  m_o m_f m_r g_R g_C m_rl m_lf m_ov x1
def cf_X6_canDoMany_s4_25  (m_o : Int32) (m_f : Int32) (m_r : Int32) (g_R : Nat → Int32) (g_C : Nat → Int32) (m_rl : Int32) (m_lf : Int32) (m_ov : Int32) (x1 : Int32) : Int32 :=
  (if (cf_X6_canDo m_o m_f m_r g_R g_C m_rl m_lf m_ov (25 : Int32)) = 0 then cf_X6_canDoMany_s21_25  m_o m_f m_r g_R g_C m_rl m_lf m_ov x1 else cf_X6_canDoMany_s21_25  m_o m_f m_r g_R g_C m_rl m_lf m_ov (x1 + (1 : Int32)))
def vc_X6_canDoMany_s4_25  (m_o : Int32) (m_f : Int32) (m_r : Int32) (g_R : Nat → Int32) (g_C : Nat → Int32) (m_rl : Int32) (m_lf : Int32) (m_ov : Int32) (x1 : Int32) : Prop :=
  (vc_X6_canDo m_o m_f m_r g_R g_C m_rl m_lf m_ov (25 : Int32) ∧ (((cf_X6_canDo m_o m_f m_r g_R g_C m_rl m_lf m_ov (25 : Int32)) = 0 → vc_X6_canDoMany_s21_25  m_o m_f m_r g_R g_C m_rl m_lf m_ov x1) ∧ (¬ (cf_X6_canDo m_o m_f m_r g_R g_C m_rl m_lf m_ov (25 : Int32)) = 0 → vc_X6_canDoMany_s21_25  m_o m_f m_r g_R g_C m_rl m_lf m_ov (x1 + (1 : Int32)))))
def cf_X6_canDoMany_s21_24  (m_o : Int32) (m_f : Int32) (m_r : Int32) (g_R : Nat → Int32) (g_C : Nat → Int32) (m_rl : Int32) (m_lf : Int32) (m_ov : Int32) (x1 : Int32) : Int32 :=
  cf_X6_canDoMany_s4_25  m_o m_f m_r g_R g_C m_rl m_lf m_ov x1
def vc_X6_canDoMany_s21_24  (m_o : Int32) (m_f : Int32) (m_r : Int32) (g_R : Nat → Int32) (g_C : Nat → Int32) (m_rl : Int32) (m_lf : Int32) (m_ov : Int32) (x1 : Int32) : Prop :=
  vc_X6_canDoMany_s4_25  m_o m_f m_r g_R g_C m_rl m_lf m_ov x1
def cf_X6_canDoMany_s4_24  (m_o : Int32) (m_f : Int32) (m_r : Int32) (g_R : Nat → Int32) (g_C : Nat → Int32) (m_rl : Int32) (m_lf : Int32) (m_ov : Int32) (x1 : Int32) : Int32 :=
  (if (cf_X6_canDo m_o m_f m_r g_R g_C m_rl m_lf m_ov (24 : Int32)) = 0 then cf_X6_canDoMany_s21_24  m_o m_f m_r g_R g_C m_rl m_lf m_ov x1 else cf_X6_canDoMany_s21_24  m_o m_f m_r g_R g_C m_rl m_lf m_ov (x1 + (1 : Int32)))
def vc_X6_canDoMany_s4_24  (m_o : Int32) (m_f : Int32) (m_r : Int32) (g_R : Nat → Int32) (g_C : Nat → Int32) (m_rl : Int32) (m_lf : Int32) (m_ov : Int32) (x1 : Int32) : Prop :=
  (vc_X6_canDo m_o m_f m_r g_R g_C m_rl m_lf m_ov (24 : Int32) ∧ (((cf_X6_canDo m_o m_f m_r g_R g_C m_rl m_lf m_ov (24 : Int32)) = 0 → vc_X6_canDoMany_s21_24  m_o m_f m_r g_R g_C m_rl m_lf m_ov x1) ∧ (¬ (cf_X6_canDo m_o m_f m_r g_R g_C m_rl m_lf m_ov (24 : Int32)) = 0 → vc_X6_canDoMany_s21_24  m_o m_f m_r g_R g_C m_rl m_lf m_ov (x1 + (1 : Int32)))))
def cf_X6_canDoMany_s21_23  (m_o : Int32) (m_f : Int32) (m_r : Int32) (g_R : Nat → Int32) (g_C : Nat → Int32) (m_rl : Int32) (m_lf : Int32) (m_ov : Int32) (x1 : Int32) : Int32 :=
  cf_X6_canDoMany_s4_24  m_o m_f m_r g_R g_C m_rl m_lf m_ov x1
def vc_X6_canDoMany_s21_23  (m_o : Int32) (m_f : Int32) (m_r : Int32) (g_R : Nat → Int32) (g_C : Nat → Int32) (m_rl : Int32) (m_lf : Int32) (m_ov : Int32) (x1 : Int32) : Prop :=
  vc_X6_canDoMany_s4_24  m_o m_f m_r g_R g_C m_rl m_lf m_ov x1
def cf_X6_canDoMany_s4_23  (m_o : Int32) (m_f : Int32) (m_r : Int32) (g_R : Nat → Int32) (g_C : Nat → Int32) (m_rl : Int32) (m_lf : Int32) (m_ov : Int32) (x1 : Int32) : Int32 :=
  (if (cf_X6_canDo m_o m_f m_r g_R g_C m_rl m_lf m_ov (23 : Int32)) = 0 then cf_X6_canDoMany_s21_23  m_o m_f m_r g_R g_C m_rl m_lf m_ov x1 else cf_X6_canDoMany_s21_23  m_o m_f m_r g_R g_C m_rl m_lf m_ov (x1 + (1 : Int32)))
def vc_X6_canDoMany_s4_23  (m_o : Int32) (m_f : Int32) (m_r : Int32) (g_R : Nat → Int32) (g_C : Nat → Int32) (m_rl : Int32) (m_lf : Int32) (m_ov : Int32) (x1 : Int32) : Prop :=
  (vc_X6_canDo m_o m_f m_r g_R g_C m_rl m_lf m_ov (23 : Int32) ∧ (((cf_X6_canDo m_o m_f m_r g_R g_C m_rl m_lf m_ov (23 : Int32)) = 0 → vc_X6_canDoMany_s21_23  m_o m_f m_r g_R g_C m_rl m_lf m_ov x1) ∧ (¬ (cf_X6_canDo m_o m_f m_r g_R g_C m_rl m_lf m_ov (23 : Int32)) = 0 → vc_X6_canDoMany_s21_23  m_o m_f m_r g_R g_C m_rl m_lf m_ov (x1 + (1 : Int32)))))
def cf_X6_canDoMany_s21_22  (m_o : Int32) (m_f : Int32) (m_r : Int32) (g_R : Nat → Int32) (g_C : Nat → Int32) (m_rl : Int32) (m_lf : Int32) (m_ov : Int32) (x1 : Int32) : Int32 :=
  cf_X6_canDoMany_s4_23  m_o m_f m_r g_R g_C m_rl m_lf m_ov x1
def vc_X6_canDoMany_s21_22  (m_o : Int32) (m_f : Int32) (m_r : Int32) (g_R : Nat → Int32) (g_C : Nat → Int32) (m_rl : Int32) (m_lf : Int32) (m_ov : Int32) (x1 : Int32) : Prop :=
  vc_X6_canDoMany_s4_23  m_o m_f m_r g_R g_C m_rl m_lf m_ov x1
def cf_X6_canDoMany_s4_22  (m_o : Int32) (m_f : Int32) (m_r : Int32) (g_R : Nat → Int32) (g_C : Nat → Int32) (m_rl : Int32) (m_lf : Int32) (m_ov : Int32) (x1 : Int32) : Int32 :=
  (if (cf_X6_canDo m_o m_f m_r g_R g_C m_rl m_lf m_ov (22 : Int32)) = 0 then cf_X6_canDoMany_s21_22  m_o m_f m_r g_R g_C m_rl m_lf m_ov x1 else cf_X6_canDoMany_s21_22  m_o m_f m_r g_R g_C m_rl m_lf m_ov (x1 + (1 : Int32)))
def vc_X6_canDoMany_s4_22  (m_o : Int32) (m_f : Int32) (m_r : Int32) (g_R : Nat → Int32) (g_C : Nat → Int32) (m_rl : Int32) (m_lf : Int32) (m_ov : Int32) (x1 : Int32) : Prop :=
  (vc_X6_canDo m_o m_f m_r g_R g_C m_rl m_lf m_ov (22 : Int32) ∧ (((cf_X6_canDo m_o m_f m_r g_R g_C m_rl m_lf m_ov (22 : Int32)) = 0 → vc_X6_canDoMany_s21_22  m_o m_f m_r g_R g_C m_rl m_lf m_ov x1) ∧ (¬ (cf_X6_canDo m_o m_f m_r g_R g_C m_rl m_lf m_ov (22 : Int32)) = 0 → vc_X6_canDoMany_s21_22  m_o m_f m_r g_R g_C m_rl m_lf m_ov (x1 + (1 : Int32)))))
def cf_X6_canDoMany_s21_21  (m_o : Int32) (m_f : Int32) (m_r : Int32) (g_R : Nat → Int32) (g_C : Nat → Int32) (m_rl : Int32) (m_lf : Int32) (m_ov : Int32) (x1 : Int32) : Int32 :=
  cf_X6_canDoMany_s4_22  m_o m_f m_r g_R g_C m_rl m_lf m_ov x1
def vc_X6_canDoMany_s21_21  (m_o : Int32) (m_f : Int32) (m_r : Int32) (g_R : Nat → Int32) (g_C : Nat → Int32) (m_rl : Int32) (m_lf : Int32) (m_ov : Int32) (x1 : Int32) : Prop :=
  vc_X6_canDoMany_s4_22  m_o m_f m_r g_R g_C m_rl m_lf m_ov x1
def cf_X6_canDoMany_s4_21  (m_o : Int32) (m_f : Int32) (m_r : Int32) (g_R : Nat → Int32) (g_C : Nat → Int32) (m_rl : Int32) (m_lf : Int32) (m_ov : Int32) (x1 : Int32) : Int32 :=
  (if (cf_X6_canDo m_o m_f m_r g_R g_C m_rl m_lf m_ov (21 : Int32)) = 0 then cf_X6_canDoMany_s21_21  m_o m_f m_r g_R g_C m_rl m_lf m_ov x1 else cf_X6_canDoMany_s21_21  m_o m_f m_r g_R g_C m_rl m_lf m_ov (x1 + (1 : Int32)))
def vc_X6_canDoMany_s4_21  (m_o : Int32) (m_f : Int32) (m_r : Int32) (g_R : Nat → Int32) (g_C : Nat → Int32) (m_rl : Int32) (m_lf : Int32) (m_ov : Int32) (x1 : Int32) : Prop :=
  (vc_X6_canDo m_o m_f m_r g_R g_C m_rl m_lf m_ov (21 : Int32) ∧ (((cf_X6_canDo m_o m_f m_r g_R g_C m_rl m_lf m_ov (21 : Int32)) = 0 → vc_X6_canDoMany_s21_21  m_o m_f m_r g_R g_C m_rl m_lf m_ov x1) ∧ (¬ (cf_X6_canDo m_o m_f m_r g_R g_C m_rl m_lf m_ov (21 : Int32)) = 0 → vc_X6_canDoMany_s21_21  m_o m_f m_r g_R g_C m_rl m_lf m_ov (x1 + (1 : Int32)))))
def cf_X6_canDoMany_s21_20  (m_o : Int32) (m_f : Int32) (m_r : Int32) (g_R : Nat → Int32) (g_C : Nat → Int32) (m_rl : Int32) (m_lf : Int32) (m_ov : Int32) (x1 : Int32) : Int32 :=
  cf_X6_canDoMany_s4_21  m_o m_f m_r g_R g_C m_rl m_lf m_ov x1
def vc_X6_canDoMany_s21_20  (m_o : Int32) (m_f : Int32) (m_r : Int32) (g_R : Nat → Int32) (g_C : Nat → Int32) (m_rl : Int32) (m_lf : Int32) (m_ov : Int32) (x1 : Int32) : Prop :=
  vc_X6_canDoMany_s4_21  m_o m_f m_r g_R g_C m_rl m_lf m_ov x1
def cf_X6_canDoMany_s4_20  (m_o : Int32) (m_f : Int32) (m_r : Int32) (g_R : Nat → Int32) (g_C : Nat → Int32) (m_rl : Int32) (m_lf : Int32) (m_ov : Int32) (x1 : Int32) : Int32 :=
  (if (cf_X6_canDo m_o m_f m_r g_R g_C m_rl m_lf m_ov (20 : Int32)) = 0 then cf_X6_canDoMany_s21_20  m_o m_f m_r g_R g_C m_rl m_lf m_ov x1 else cf_X6_canDoMany_s21_20  m_o m_f m_r g_R g_C m_rl m_lf m_ov (x1 + (1 : Int32)))
def vc_X6_canDoMany_s4_20  (m_o : Int32) (m_f : Int32) (m_r : Int32) (g_R : Nat → Int32) (g_C : Nat → Int32) (m_rl : Int32) (m_lf : Int32) (m_ov : Int32) (x1 : Int32) : Prop :=
  (vc_X6_canDo m_o m_f m_r g_R g_C m_rl m_lf m_ov (20 : Int32) ∧ (((cf_X6_canDo m_o m_f m_r g_R g_C m_rl m_lf m_ov (20 : Int32)) = 0 → vc_X6_canDoMany_s21_20  m_o m_f m_r g_R g_C m_rl m_lf m_ov x1) ∧ (¬ (cf_X6_canDo m_o m_f m_r g_R g_C m_rl m_lf m_ov (20 : Int32)) = 0 → vc_X6_canDoMany_s21_20  m_o m_f m_r g_R g_C m_rl m_lf m_ov (x1 + (1 : Int32)))))
def cf_X6_canDoMany_s21_19  (m_o : Int32) (m_f : Int32) (m_r : Int32) (g_R : Nat → Int32) (g_C : Nat → Int32) (m_rl : Int32) (m_lf : Int32) (m_ov : Int32) (x1 : Int32) : Int32 :=
  cf_X6_canDoMany_s4_20  m_o m_f m_r g_R g_C m_rl m_lf m_ov x1
def vc_X6_canDoMany_s21_19  (m_o : Int32) (m_f : Int32) (m_r : Int32) (g_R : Nat → Int32) (g_C : Nat → Int32) (m_rl : Int32) (m_lf : Int32) (m_ov : Int32) (x1 : Int32) : Prop :=
  vc_X6_canDoMany_s4_20  m_o m_f m_r g_R g_C m_rl m_lf m_ov x1
def cf_X6_canDoMany_s4_19  (m_o : Int32) (m_f : Int32) (m_r : Int32) (g_R : Nat → Int32) (g_C : Nat → Int32) (m_rl : Int32) (m_lf : Int32) (m_ov : Int32) (x1 : Int32) : Int32 :=
  (if (cf_X6_canDo m_o m_f m_r g_R g_C m_rl m_lf m_ov (19 : Int32)) = 0 then cf_X6_canDoMany_s21_19  m_o m_f m_r g_R g_C m_rl m_lf m_ov x1 else cf_X6_canDoMany_s21_19  m_o m_f m_r g_R g_C m_rl m_lf m_ov (x1 + (1 : Int32)))
def vc_X6_canDoMany_s4_19  (m_o : Int32) (m_f : Int32) (m_r : Int32) (g_R : Nat → Int32) (g_C : Nat → Int32) (m_rl : Int32) (m_lf : Int32) (m_ov : Int32) (x1 : Int32) : Prop :=
  (vc_X6_canDo m_o m_f m_r g_R g_C m_rl m_lf m_ov (19 : Int32) ∧ (((cf_X6_canDo m_o m_f m_r g_R g_C m_rl m_lf m_ov (19 : Int32)) = 0 → vc_X6_canDoMany_s21_19  m_o m_f m_r g_R g_C m_rl m_lf m_ov x1) ∧ (¬ (cf_X6_canDo m_o m_f m_r g_R g_C m_rl m_lf m_ov (19 : Int32)) = 0 → vc_X6_canDoMany_s21_19  m_o m_f m_r g_R g_C m_rl m_lf m_ov (x1 + (1 : Int32)))))
def cf_X6_canDoMany_s21_18  (m_o : Int32) (m_f : Int32) (m_r : Int32) (g_R : Nat → Int32) (g_C : Nat → Int32) (m_rl : Int32) (m_lf : Int32) (m_ov : Int32) (x1 : Int32) : Int32 :=
  cf_X6_canDoMany_s4_19  m_o m_f m_r g_R g_C m_rl m_lf m_ov x1
def vc_X6_canDoMany_s21_18  (m_o : Int32) (m_f : Int32) (m_r : Int32) (g_R : Nat → Int32) (g_C : Nat → Int32) (m_rl : Int32) (m_lf : Int32) (m_ov : Int32) (x1 : Int32) : Prop :=
  vc_X6_canDoMany_s4_19  m_o m_f m_r g_R g_C m_rl m_lf m_ov x1
def cf_X6_canDoMany_s4_18  (m_o : Int32) (m_f : Int32) (m_r : Int32) (g_R : Nat → Int32) (g_C : Nat → Int32) (m_rl : Int32) (m_lf : Int32) (m_ov : Int32) (x1 : Int32) : Int32 :=
  (if (cf_X6_canDo m_o m_f m_r g_R g_C m_rl m_lf m_ov (18 : Int32)) = 0 then cf_X6_canDoMany_s21_18  m_o m_f m_r g_R g_C m_rl m_lf m_ov x1 else cf_X6_canDoMany_s21_18  m_o m_f m_r g_R g_C m_rl m_lf m_ov (x1 + (1 : Int32)))
def vc_X6_canDoMany_s4_18  (m_o : Int32) (m_f : Int32) (m_r : Int32) (g_R : Nat → Int32) (g_C : Nat → Int32) (m_rl : Int32) (m_lf : Int32) (m_ov : Int32) (x1 : Int32) : Prop :=
  (vc_X6_canDo m_o m_f m_r g_R g_C m_rl m_lf m_ov (18 : Int32) ∧ (((cf_X6_canDo m_o m_f m_r g_R g_C m_rl m_lf m_ov (18 : Int32)) = 0 → vc_X6_canDoMany_s21_18  m_o m_f m_r g_R g_C m_rl m_lf m_ov x1) ∧ (¬ (cf_X6_canDo m_o m_f m_r g_R g_C m_rl m_lf m_ov (18 : Int32)) = 0 → vc_X6_canDoMany_s21_18  m_o m_f m_r g_R g_C m_rl m_lf m_ov (x1 + (1 : Int32)))))
def cf_X6_canDoMany_s21_17  (m_o : Int32) (m_f : Int32) (m_r : Int32) (g_R : Nat → Int32) (g_C : Nat → Int32) (m_rl : Int32) (m_lf : Int32) (m_ov : Int32) (x1 : Int32) : Int32 :=
  cf_X6_canDoMany_s4_18  m_o m_f m_r g_R g_C m_rl m_lf m_ov x1
def vc_X6_canDoMany_s21_17  (m_o : Int32) (m_f : Int32) (m_r : Int32) (g_R : Nat → Int32) (g_C : Nat → Int32) (m_rl : Int32) (m_lf : Int32) (m_ov : Int32) (x1 : Int32) : Prop :=
  vc_X6_canDoMany_s4_18  m_o m_f m_r g_R g_C m_rl m_lf m_ov x1
def cf_X6_canDoMany_s4_17  (m_o : Int32) (m_f : Int32) (m_r : Int32) (g_R : Nat → Int32) (g_C : Nat → Int32) (m_rl : Int32) (m_lf : Int32) (m_ov : Int32) (x1 : Int32) : Int32 :=
  (if (cf_X6_canDo m_o m_f m_r g_R g_C m_rl m_lf m_ov (17 : Int32)) = 0 then cf_X6_canDoMany_s21_17  m_o m_f m_r g_R g_C m_rl m_lf m_ov x1 else cf_X6_canDoMany_s21_17  m_o m_f m_r g_R g_C m_rl m_lf m_ov (x1 + (1 : Int32)))
def vc_X6_canDoMany_s4_17  (m_o : Int32) (m_f : Int32) (m_r : Int32) (g_R : Nat → Int32) (g_C : Nat → Int32) (m_rl : Int32) (m_lf : Int32) (m_ov : Int32) (x1 : Int32) : Prop :=
  (vc_X6_canDo m_o m_f m_r g_R g_C m_rl m_lf m_ov (17 : Int32) ∧ (((cf_X6_canDo m_o m_f m_r g_R g_C m_rl m_lf m_ov (17 : Int32)) = 0 → vc_X6_canDoMany_s21_17  m_o m_f m_r g_R g_C m_rl m_lf m_ov x1) ∧ (¬ (cf_X6_canDo m_o m_f m_r g_R g_C m_rl m_lf m_ov (17 : Int32)) = 0 → vc_X6_canDoMany_s21_17  m_o m_f m_r g_R g_C m_rl m_lf m_ov (x1 + (1 : Int32)))))
def cf_X6_canDoMany_s21_16  (m_o : Int32) (m_f : Int32) (m_r : Int32) (g_R : Nat → Int32) (g_C : Nat → Int32) (m_rl : Int32) (m_lf : Int32) (m_ov : Int32) (x1 : Int32) : Int32 :=
  cf_X6_canDoMany_s4_17  m_o m_f m_r g_R g_C m_rl m_lf m_ov x1
def vc_X6_canDoMany_s21_16  (m_o : Int32) (m_f : Int32) (m_r : Int32) (g_R : Nat → Int32) (g_C : Nat → Int32) (m_rl : Int32) (m_lf : Int32) (m_ov : Int32) (x1 : Int32) : Prop :=
  vc_X6_canDoMany_s4_17  m_o m_f m_r g_R g_C m_rl m_lf m_ov x1
def cf_X6_canDoMany_s4_16  (m_o : Int32) (m_f : Int32) (m_r : Int32) (g_R : Nat → Int32) (g_C : Nat → Int32) (m_rl : Int32) (m_lf : Int32) (m_ov : Int32) (x1 : Int32) : Int32 :=
  (if (cf_X6_canDo m_o m_f m_r g_R g_C m_rl m_lf m_ov (16 : Int32)) = 0 then cf_X6_canDoMany_s21_16  m_o m_f m_r g_R g_C m_rl m_lf m_ov x1 else cf_X6_canDoMany_s21_16  m_o m_f m_r g_R g_C m_rl m_lf m_ov (x1 + (1 : Int32)))
def vc_X6_canDoMany_s4_16  (m_o : Int32) (m_f : Int32) (m_r : Int32) (g_R : Nat → Int32) (g_C : Nat → Int32) (m_rl : Int32) (m_lf : Int32) (m_ov : Int32) (x1 : Int32) : Prop :=
  (vc_X6_canDo m_o m_f m_r g_R g_C m_rl m_lf m_ov (16 : Int32) ∧ (((cf_X6_canDo m_o m_f m_r g_R g_C m_rl m_lf m_ov (16 : Int32)) = 0 → vc_X6_canDoMany_s21_16  m_o m_f m_r g_R g_C m_rl m_lf m_ov x1) ∧ (¬ (cf_X6_canDo m_o m_f m_r g_R g_C m_rl m_lf m_ov (16 : Int32)) = 0 → vc_X6_canDoMany_s21_16  m_o m_f m_r g_R g_C m_rl m_lf m_ov (x1 + (1 : Int32)))))
def cf_X6_canDoMany_s21_15  (m_o : Int32) (m_f : Int32) (m_r : Int32) (g_R : Nat → Int32) (g_C : Nat → Int32) (m_rl : Int32) (m_lf : Int32) (m_ov : Int32) (x1 : Int32) : Int32 :=
  cf_X6_canDoMany_s4_16  m_o m_f m_r g_R g_C m_rl m_lf m_ov x1
def vc_X6_canDoMany_s21_15  (m_o : Int32) (m_f : Int32) (m_r : Int32) (g_R : Nat → Int32) (g_C : Nat → Int32) (m_rl : Int32) (m_lf : Int32) (m_ov : Int32) (x1 : Int32) : Prop :=
  vc_X6_canDoMany_s4_16  m_o m_f m_r g_R g_C m_rl m_lf m_ov x1
def cf_X6_canDoMany_s4_15  (m_o : Int32) (m_f : Int32) (m_r : Int32) (g_R : Nat → Int32) (g_C : Nat → Int32) (m_rl : Int32) (m_lf : Int32) (m_ov : Int32) (x1 : Int32) : Int32 :=
  (if (cf_X6_canDo m_o m_f m_r g_R g_C m_rl m_lf m_ov (15 : Int32)) = 0 then cf_X6_canDoMany_s21_15  m_o m_f m_r g_R g_C m_rl m_lf m_ov x1 else cf_X6_canDoMany_s21_15  m_o m_f m_r g_R g_C m_rl m_lf m_ov (x1 + (1 : Int32)))
def vc_X6_canDoMany_s4_15  (m_o : Int32) (m_f : Int32) (m_r : Int32) (g_R : Nat → Int32) (g_C : Nat → Int32) (m_rl : Int32) (m_lf : Int32) (m_ov : Int32) (x1 : Int32) : Prop :=
  (vc_X6_canDo m_o m_f m_r g_R g_C m_rl m_lf m_ov (15 : Int32) ∧ (((cf_X6_canDo m_o m_f m_r g_R g_C m_rl m_lf m_ov (15 : Int32)) = 0 → vc_X6_canDoMany_s21_15  m_o m_f m_r g_R g_C m_rl m_lf m_ov x1) ∧ (¬ (cf_X6_canDo m_o m_f m_r g_R g_C m_rl m_lf m_ov (15 : Int32)) = 0 → vc_X6_canDoMany_s21_15  m_o m_f m_r g_R g_C m_rl m_lf m_ov (x1 + (1 : Int32)))))
def cf_X6_canDoMany_s21_14  (m_o : Int32) (m_f : Int32) (m_r : Int32) (g_R : Nat → Int32) (g_C : Nat → Int32) (m_rl : Int32) (m_lf : Int32) (m_ov : Int32) (x1 : Int32) : Int32 :=
  cf_X6_canDoMany_s4_15  m_o m_f m_r g_R g_C m_rl m_lf m_ov x1
def vc_X6_canDoMany_s21_14  (m_o : Int32) (m_f : Int32) (m_r : Int32) (g_R : Nat → Int32) (g_C : Nat → Int32) (m_rl : Int32) (m_lf : Int32) (m_ov : Int32) (x1 : Int32) : Prop :=
  vc_X6_canDoMany_s4_15  m_o m_f m_r g_R g_C m_rl m_lf m_ov x1
def cf_X6_canDoMany_s4_14  (m_o : Int32) (m_f : Int32) (m_r : Int32) (g_R : Nat → Int32) (g_C : Nat → Int32) (m_rl : Int32) (m_lf : Int32) (m_ov : Int32) (x1 : Int32) : Int32 :=
  (if (cf_X6_canDo m_o m_f m_r g_R g_C m_rl m_lf m_ov (14 : Int32)) = 0 then cf_X6_canDoMany_s21_14  m_o m_f m_r g_R g_C m_rl m_lf m_ov x1 else cf_X6_canDoMany_s21_14  m_o m_f m_r g_R g_C m_rl m_lf m_ov (x1 + (1 : Int32)))
def vc_X6_canDoMany_s4_14  (m_o : Int32) (m_f : Int32) (m_r : Int32) (g_R : Nat → Int32) (g_C : Nat → Int32) (m_rl : Int32) (m_lf : Int32) (m_ov : Int32) (x1 : Int32) : Prop :=
  (vc_X6_canDo m_o m_f m_r g_R g_C m_rl m_lf m_ov (14 : Int32) ∧ (((cf_X6_canDo m_o m_f m_r g_R g_C m_rl m_lf m_ov (14 : Int32)) = 0 → vc_X6_canDoMany_s21_14  m_o m_f m_r g_R g_C m_rl m_lf m_ov x1) ∧ (¬ (cf_X6_canDo m_o m_f m_r g_R g_C m_rl m_lf m_ov (14 : Int32)) = 0 → vc_X6_canDoMany_s21_14  m_o m_f m_r g_R g_C m_rl m_lf m_ov (x1 + (1 : Int32)))))
def cf_X6_canDoMany_s21_13  (m_o : Int32) (m_f : Int32) (m_r : Int32) (g_R : Nat → Int32) (g_C : Nat → Int32) (m_rl : Int32) (m_lf : Int32) (m_ov : Int32) (x1 : Int32) : Int32 :=
  cf_X6_canDoMany_s4_14  m_o m_f m_r g_R g_C m_rl m_lf m_ov x1
def vc_X6_canDoMany_s21_13  (m_o : Int32) (m_f : Int32) (m_r : Int32) (g_R : Nat → Int32) (g_C : Nat → Int32) (m_rl : Int32) (m_lf : Int32) (m_ov : Int32) (x1 : Int32) : Prop :=
  vc_X6_canDoMany_s4_14  m_o m_f m_r g_R g_C m_rl m_lf m_ov x1
def cf_X6_canDoMany_s4_13  (m_o : Int32) (m_f : Int32) (m_r : Int32) (g_R : Nat → Int32) (g_C : Nat → Int32) (m_rl : Int32) (m_lf : Int32) (m_ov : Int32) (x1 : Int32) : Int32 :=
  (if (cf_X6_canDo m_o m_f m_r g_R g_C m_rl m_lf m_ov (13 : Int32)) = 0 then cf_X6_canDoMany_s21_13  m_o m_f m_r g_R g_C m_rl m_lf m_ov x1 else cf_X6_canDoMany_s21_13  m_o m_f m_r g_R g_C m_rl m_lf m_ov (x1 + (1 : Int32)))
def vc_X6_canDoMany_s4_13  (m_o : Int32) (m_f : Int32) (m_r : Int32) (g_R : Nat → Int32) (g_C : Nat → Int32) (m_rl : Int32) (m_lf : Int32) (m_ov : Int32) (x1 : Int32) : Prop :=
  (vc_X6_canDo m_o m_f m_r g_R g_C m_rl m_lf m_ov (13 : Int32) ∧ (((cf_X6_canDo m_o m_f m_r g_R g_C m_rl m_lf m_ov (13 : Int32)) = 0 → vc_X6_canDoMany_s21_13  m_o m_f m_r g_R g_C m_rl m_lf m_ov x1) ∧ (¬ (cf_X6_canDo m_o m_f m_r g_R g_C m_rl m_lf m_ov (13 : Int32)) = 0 → vc_X6_canDoMany_s21_13  m_o m_f m_r g_R g_C m_rl m_lf m_ov (x1 + (1 : Int32)))))
def cf_X6_canDoMany_s21_12  (m_o : Int32) (m_f : Int32) (m_r : Int32) (g_R : Nat → Int32) (g_C : Nat → Int32) (m_rl : Int32) (m_lf : Int32) (m_ov : Int32) (x1 : Int32) : Int32 :=
  cf_X6_canDoMany_s4_13  m_o m_f m_r g_R g_C m_rl m_lf m_ov x1
def vc_X6_canDoMany_s21_12  (m_o : Int32) (m_f : Int32) (m_r : Int32) (g_R : Nat → Int32) (g_C : Nat → Int32) (m_rl : Int32) (m_lf : Int32) (m_ov : Int32) (x1 : Int32) : Prop :=
  vc_X6_canDoMany_s4_13  m_o m_f m_r g_R g_C m_rl m_lf m_ov x1
def cf_X6_canDoMany_s4_12  (m_o : Int32) (m_f : Int32) (m_r : Int32) (g_R : Nat → Int32) (g_C : Nat → Int32) (m_rl : Int32) (m_lf : Int32) (m_ov : Int32) (x1 : Int32) : Int32 :=
  (if (cf_X6_canDo m_o m_f m_r g_R g_C m_rl m_lf m_ov (12 : Int32)) = 0 then cf_X6_canDoMany_s21_12  m_o m_f m_r g_R g_C m_rl m_lf m_ov x1 else cf_X6_canDoMany_s21_12  m_o m_f m_r g_R g_C m_rl m_lf m_ov (x1 + (1 : Int32)))
def vc_X6_canDoMany_s4_12  (m_o : Int32) (m_f : Int32) (m_r : Int32) (g_R : Nat → Int32) (g_C : Nat → Int32) (m_rl : Int32) (m_lf : Int32) (m_ov : Int32) (x1 : Int32) : Prop :=
  (vc_X6_canDo m_o m_f m_r g_R g_C m_rl m_lf m_ov (12 : Int32) ∧ (((cf_X6_canDo m_o m_f m_r g_R g_C m_rl m_lf m_ov (12 : Int32)) = 0 → vc_X6_canDoMany_s21_12  m_o m_f m_r g_R g_C m_rl m_lf m_ov x1) ∧ (¬ (cf_X6_canDo m_o m_f m_r g_R g_C m_rl m_lf m_ov (12 : Int32)) = 0 → vc_X6_canDoMany_s21_12  m_o m_f m_r g_R g_C m_rl m_lf m_ov (x1 + (1 : Int32)))))
def cf_X6_canDoMany_s21_11  (m_o : Int32) (m_f : Int32) (m_r : Int32) (g_R : Nat → Int32) (g_C : Nat → Int32) (m_rl : Int32) (m_lf : Int32) (m_ov : Int32) (x1 : Int32) : Int32 :=
  cf_X6_canDoMany_s4_12  m_o m_f m_r g_R g_C m_rl m_lf m_ov x1
def vc_X6_canDoMany_s21_11  (m_o : Int32) (m_f : Int32) (m_r : Int32) (g_R : Nat → Int32) (g_C : Nat → Int32) (m_rl : Int32) (m_lf : Int32) (m_ov : Int32) (x1 : Int32) : Prop :=
  vc_X6_canDoMany_s4_12  m_o m_f m_r g_R g_C m_rl m_lf m_ov x1
def cf_X6_canDoMany_s4_11  (m_o : Int32) (m_f : Int32) (m_r : Int32) (g_R : Nat → Int32) (g_C : Nat → Int32) (m_rl : Int32) (m_lf : Int32) (m_ov : Int32) (x1 : Int32) : Int32 :=
  (if (cf_X6_canDo m_o m_f m_r g_R g_C m_rl m_lf m_ov (11 : Int32)) = 0 then cf_X6_canDoMany_s21_11  m_o m_f m_r g_R g_C m_rl m_lf m_ov x1 else cf_X6_canDoMany_s21_11  m_o m_f m_r g_R g_C m_rl m_lf m_ov (x1 + (1 : Int32)))
def vc_X6_canDoMany_s4_11  (m_o : Int32) (m_f : Int32) (m_r : Int32) (g_R : Nat → Int32) (g_C : Nat → Int32) (m_rl : Int32) (m_lf : Int32) (m_ov : Int32) (x1 : Int32) : Prop :=
  (vc_X6_canDo m_o m_f m_r g_R g_C m_rl m_lf m_ov (11 : Int32) ∧ (((cf_X6_canDo m_o m_f m_r g_R g_C m_rl m_lf m_ov (11 : Int32)) = 0 → vc_X6_canDoMany_s21_11  m_o m_f m_r g_R g_C m_rl m_lf m_ov x1) ∧ (¬ (cf_X6_canDo m_o m_f m_r g_R g_C m_rl m_lf m_ov (11 : Int32)) = 0 → vc_X6_canDoMany_s21_11  m_o m_f m_r g_R g_C m_rl m_lf m_ov (x1 + (1 : Int32)))))
def cf_X6_canDoMany_s21_10  (m_o : Int32) (m_f : Int32) (m_r : Int32) (g_R : Nat → Int32) (g_C : Nat → Int32) (m_rl : Int32) (m_lf : Int32) (m_ov : Int32) (x1 : Int32) : Int32 :=
  cf_X6_canDoMany_s4_11  m_o m_f m_r g_R g_C m_rl m_lf m_ov x1
def vc_X6_canDoMany_s21_10  (m_o : Int32) (m_f : Int32) (m_r : Int32) (g_R : Nat → Int32) (g_C : Nat → Int32) (m_rl : Int32) (m_lf : Int32) (m_ov : Int32) (x1 : Int32) : Prop :=
  vc_X6_canDoMany_s4_11  m_o m_f m_r g_R g_C m_rl m_lf m_ov x1
def cf_X6_canDoMany_s4_10  (m_o : Int32) (m_f : Int32) (m_r : Int32) (g_R : Nat → Int32) (g_C : Nat → Int32) (m_rl : Int32) (m_lf : Int32) (m_ov : Int32) (x1 : Int32) : Int32 :=
  (if (cf_X6_canDo m_o m_f m_r g_R g_C m_rl m_lf m_ov (10 : Int32)) = 0 then cf_X6_canDoMany_s21_10  m_o m_f m_r g_R g_C m_rl m_lf m_ov x1 else cf_X6_canDoMany_s21_10  m_o m_f m_r g_R g_C m_rl m_lf m_ov (x1 + (1 : Int32)))
def vc_X6_canDoMany_s4_10  (m_o : Int32) (m_f : Int32) (m_r : Int32) (g_R : Nat → Int32) (g_C : Nat → Int32) (m_rl : Int32) (m_lf : Int32) (m_ov : Int32) (x1 : Int32) : Prop :=
  (vc_X6_canDo m_o m_f m_r g_R g_C m_rl m_lf m_ov (10 : Int32) ∧ (((cf_X6_canDo m_o m_f m_r g_R g_C m_rl m_lf m_ov (10 : Int32)) = 0 → vc_X6_canDoMany_s21_10  m_o m_f m_r g_R g_C m_rl m_lf m_ov x1) ∧ (¬ (cf_X6_canDo m_o m_f m_r g_R g_C m_rl m_lf m_ov (10 : Int32)) = 0 → vc_X6_canDoMany_s21_10  m_o m_f m_r g_R g_C m_rl m_lf m_ov (x1 + (1 : Int32)))))
def cf_X6_canDoMany_s21_9  (m_o : Int32) (m_f : Int32) (m_r : Int32) (g_R : Nat → Int32) (g_C : Nat → Int32) (m_rl : Int32) (m_lf : Int32) (m_ov : Int32) (x1 : Int32) : Int32 :=
  cf_X6_canDoMany_s4_10  m_o m_f m_r g_R g_C m_rl m_lf m_ov x1
def vc_X6_canDoMany_s21_9  (m_o : Int32) (m_f : Int32) (m_r : Int32) (g_R : Nat → Int32) (g_C : Nat → Int32) (m_rl : Int32) (m_lf : Int32) (m_ov : Int32) (x1 : Int32) : Prop :=
  vc_X6_canDoMany_s4_10  m_o m_f m_r g_R g_C m_rl m_lf m_ov x1
def cf_X6_canDoMany_s4_9  (m_o : Int32) (m_f : Int32) (m_r : Int32) (g_R : Nat → Int32) (g_C : Nat → Int32) (m_rl : Int32) (m_lf : Int32) (m_ov : Int32) (x1 : Int32) : Int32 :=
  (if (cf_X6_canDo m_o m_f m_r g_R g_C m_rl m_lf m_ov (9 : Int32)) = 0 then cf_X6_canDoMany_s21_9  m_o m_f m_r g_R g_C m_rl m_lf m_ov x1 else cf_X6_canDoMany_s21_9  m_o m_f m_r g_R g_C m_rl m_lf m_ov (x1 + (1 : Int32)))
def vc_X6_canDoMany_s4_9  (m_o : Int32) (m_f : Int32) (m_r : Int32) (g_R : Nat → Int32) (g_C : Nat → Int32) (m_rl : Int32) (m_lf : Int32) (m_ov : Int32) (x1 : Int32) : Prop :=
  (vc_X6_canDo m_o m_f m_r g_R g_C m_rl m_lf m_ov (9 : Int32) ∧ (((cf_X6_canDo m_o m_f m_r g_R g_C m_rl m_lf m_ov (9 : Int32)) = 0 → vc_X6_canDoMany_s21_9  m_o m_f m_r g_R g_C m_rl m_lf m_ov x1) ∧ (¬ (cf_X6_canDo m_o m_f m_r g_R g_C m_rl m_lf m_ov (9 : Int32)) = 0 → vc_X6_canDoMany_s21_9  m_o m_f m_r g_R g_C m_rl m_lf m_ov (x1 + (1 : Int32)))))
def cf_X6_canDoMany_s21_8  (m_o : Int32) (m_f : Int32) (m_r : Int32) (g_R : Nat → Int32) (g_C : Nat → Int32) (m_rl : Int32) (m_lf : Int32) (m_ov : Int32) (x1 : Int32) : Int32 :=
  cf_X6_canDoMany_s4_9  m_o m_f m_r g_R g_C m_rl m_lf m_ov x1
def vc_X6_canDoMany_s21_8  (m_o : Int32) (m_f : Int32) (m_r : Int32) (g_R : Nat → Int32) (g_C : Nat → Int32) (m_rl : Int32) (m_lf : Int32) (m_ov : Int32) (x1 : Int32) : Prop :=
  vc_X6_canDoMany_s4_9  m_o m_f m_r g_R g_C m_rl m_lf m_ov x1
def cf_X6_canDoMany_s4_8  (m_o : Int32) (m_f : Int32) (m_r : Int32) (g_R : Nat → Int32) (g_C : Nat → Int32) (m_rl : Int32) (m_lf : Int32) (m_ov : Int32) (x1 : Int32) : Int32 :=
  (if (cf_X6_canDo m_o m_f m_r g_R g_C m_rl m_lf m_ov (8 : Int32)) = 0 then cf_X6_canDoMany_s21_8  m_o m_f m_r g_R g_C m_rl m_lf m_ov x1 else cf_X6_canDoMany_s21_8  m_o m_f m_r g_R g_C m_rl m_lf m_ov (x1 + (1 : Int32)))
def vc_X6_canDoMany_s4_8  (m_o : Int32) (m_f : Int32) (m_r : Int32) (g_R : Nat → Int32) (g_C : Nat → Int32) (m_rl : Int32) (m_lf : Int32) (m_ov : Int32) (x1 : Int32) : Prop :=
  (vc_X6_canDo m_o m_f m_r g_R g_C m_rl m_lf m_ov (8 : Int32) ∧ (((cf_X6_canDo m_o m_f m_r g_R g_C m_rl m_lf m_ov (8 : Int32)) = 0 → vc_X6_canDoMany_s21_8  m_o m_f m_r g_R g_C m_rl m_lf m_ov x1) ∧ (¬ (cf_X6_canDo m_o m_f m_r g_R g_C m_rl m_lf m_ov (8 : Int32)) = 0 → vc_X6_canDoMany_s21_8  m_o m_f m_r g_R g_C m_rl m_lf m_ov (x1 + (1 : Int32)))))
def cf_X6_canDoMany_s21_7  (m_o : Int32) (m_f : Int32) (m_r : Int32) (g_R : Nat → Int32) (g_C : Nat → Int32) (m_rl : Int32) (m_lf : Int32) (m_ov : Int32) (x1 : Int32) : Int32 :=
  cf_X6_canDoMany_s4_8  m_o m_f m_r g_R g_C m_rl m_lf m_ov x1
def vc_X6_canDoMany_s21_7  (m_o : Int32) (m_f : Int32) (m_r : Int32) (g_R : Nat → Int32) (g_C : Nat → Int32) (m_rl : Int32) (m_lf : Int32) (m_ov : Int32) (x1 : Int32) : Prop :=
  vc_X6_canDoMany_s4_8  m_o m_f m_r g_R g_C m_rl m_lf m_ov x1
def cf_X6_canDoMany_s4_7  (m_o : Int32) (m_f : Int32) (m_r : Int32) (g_R : Nat → Int32) (g_C : Nat → Int32) (m_rl : Int32) (m_lf : Int32) (m_ov : Int32) (x1 : Int32) : Int32 :=
  (if (cf_X6_canDo m_o m_f m_r g_R g_C m_rl m_lf m_ov (7 : Int32)) = 0 then cf_X6_canDoMany_s21_7  m_o m_f m_r g_R g_C m_rl m_lf m_ov x1 else cf_X6_canDoMany_s21_7  m_o m_f m_r g_R g_C m_rl m_lf m_ov (x1 + (1 : Int32)))
def vc_X6_canDoMany_s4_7  (m_o : Int32) (m_f : Int32) (m_r : Int32) (g_R : Nat → Int32) (g_C : Nat → Int32) (m_rl : Int32) (m_lf : Int32) (m_ov : Int32) (x1 : Int32) : Prop :=
  (vc_X6_canDo m_o m_f m_r g_R g_C m_rl m_lf m_ov (7 : Int32) ∧ (((cf_X6_canDo m_o m_f m_r g_R g_C m_rl m_lf m_ov (7 : Int32)) = 0 → vc_X6_canDoMany_s21_7  m_o m_f m_r g_R g_C m_rl m_lf m_ov x1) ∧ (¬ (cf_X6_canDo m_o m_f m_r g_R g_C m_rl m_lf m_ov (7 : Int32)) = 0 → vc_X6_canDoMany_s21_7  m_o m_f m_r g_R g_C m_rl m_lf m_ov (x1 + (1 : Int32)))))
def cf_X6_canDoMany_s21_6  (m_o : Int32) (m_f : Int32) (m_r : Int32) (g_R : Nat → Int32) (g_C : Nat → Int32) (m_rl : Int32) (m_lf : Int32) (m_ov : Int32) (x1 : Int32) : Int32 :=
  cf_X6_canDoMany_s4_7  m_o m_f m_r g_R g_C m_rl m_lf m_ov x1
def vc_X6_canDoMany_s21_6  (m_o : Int32) (m_f : Int32) (m_r : Int32) (g_R : Nat → Int32) (g_C : Nat → Int32) (m_rl : Int32) (m_lf : Int32) (m_ov : Int32) (x1 : Int32) : Prop :=
  vc_X6_canDoMany_s4_7  m_o m_f m_r g_R g_C m_rl m_lf m_ov x1
def cf_X6_canDoMany_s4_6  (m_o : Int32) (m_f : Int32) (m_r : Int32) (g_R : Nat → Int32) (g_C : Nat → Int32) (m_rl : Int32) (m_lf : Int32) (m_ov : Int32) (x1 : Int32) : Int32 :=
  (if (cf_X6_canDo m_o m_f m_r g_R g_C m_rl m_lf m_ov (6 : Int32)) = 0 then cf_X6_canDoMany_s21_6  m_o m_f m_r g_R g_C m_rl m_lf m_ov x1 else cf_X6_canDoMany_s21_6  m_o m_f m_r g_R g_C m_rl m_lf m_ov (x1 + (1 : Int32)))
def vc_X6_canDoMany_s4_6  (m_o : Int32) (m_f : Int32) (m_r : Int32) (g_R : Nat → Int32) (g_C : Nat → Int32) (m_rl : Int32) (m_lf : Int32) (m_ov : Int32) (x1 : Int32) : Prop :=
  (vc_X6_canDo m_o m_f m_r g_R g_C m_rl m_lf m_ov (6 : Int32) ∧ (((cf_X6_canDo m_o m_f m_r g_R g_C m_rl m_lf m_ov (6 : Int32)) = 0 → vc_X6_canDoMany_s21_6  m_o m_f m_r g_R g_C m_rl m_lf m_ov x1) ∧ (¬ (cf_X6_canDo m_o m_f m_r g_R g_C m_rl m_lf m_ov (6 : Int32)) = 0 → vc_X6_canDoMany_s21_6  m_o m_f m_r g_R g_C m_rl m_lf m_ov (x1 + (1 : Int32)))))
def cf_X6_canDoMany_s21_5  (m_o : Int32) (m_f : Int32) (m_r : Int32) (g_R : Nat → Int32) (g_C : Nat → Int32) (m_rl : Int32) (m_lf : Int32) (m_ov : Int32) (x1 : Int32) : Int32 :=
  cf_X6_canDoMany_s4_6  m_o m_f m_r g_R g_C m_rl m_lf m_ov x1
def vc_X6_canDoMany_s21_5  (m_o : Int32) (m_f : Int32) (m_r : Int32) (g_R : Nat → Int32) (g_C : Nat → Int32) (m_rl : Int32) (m_lf : Int32) (m_ov : Int32) (x1 : Int32) : Prop :=
  vc_X6_canDoMany_s4_6  m_o m_f m_r g_R g_C m_rl m_lf m_ov x1
def cf_X6_canDoMany_s4_5  (m_o : Int32) (m_f : Int32) (m_r : Int32) (g_R : Nat → Int32) (g_C : Nat → Int32) (m_rl : Int32) (m_lf : Int32) (m_ov : Int32) (x1 : Int32) : Int32 :=
  (if (cf_X6_canDo m_o m_f m_r g_R g_C m_rl m_lf m_ov (5 : Int32)) = 0 then cf_X6_canDoMany_s21_5  m_o m_f m_r g_R g_C m_rl m_lf m_ov x1 else cf_X6_canDoMany_s21_5  m_o m_f m_r g_R g_C m_rl m_lf m_ov (x1 + (1 : Int32)))
def vc_X6_canDoMany_s4_5  (m_o : Int32) (m_f : Int32) (m_r : Int32) (g_R : Nat → Int32) (g_C : Nat → Int32) (m_rl : Int32) (m_lf : Int32) (m_ov : Int32) (x1 : Int32) : Prop :=
  (vc_X6_canDo m_o m_f m_r g_R g_C m_rl m_lf m_ov (5 : Int32) ∧ (((cf_X6_canDo m_o m_f m_r g_R g_C m_rl m_lf m_ov (5 : Int32)) = 0 → vc_X6_canDoMany_s21_5  m_o m_f m_r g_R g_C m_rl m_lf m_ov x1) ∧ (¬ (cf_X6_canDo m_o m_f m_r g_R g_C m_rl m_lf m_ov (5 : Int32)) = 0 → vc_X6_canDoMany_s21_5  m_o m_f m_r g_R g_C m_rl m_lf m_ov (x1 + (1 : Int32)))))
def cf_X6_canDoMany_s21_4  (m_o : Int32) (m_f : Int32) (m_r : Int32) (g_R : Nat → Int32) (g_C : Nat → Int32) (m_rl : Int32) (m_lf : Int32) (m_ov : Int32) (x1 : Int32) : Int32 :=
  cf_X6_canDoMany_s4_5  m_o m_f m_r g_R g_C m_rl m_lf m_ov x1
def vc_X6_canDoMany_s21_4  (m_o : Int32) (m_f : Int32) (m_r : Int32) (g_R : Nat → Int32) (g_C : Nat → Int32) (m_rl : Int32) (m_lf : Int32) (m_ov : Int32) (x1 : Int32) : Prop :=
  vc_X6_canDoMany_s4_5  m_o m_f m_r g_R g_C m_rl m_lf m_ov x1
def cf_X6_canDoMany_s4_4  (m_o : Int32) (m_f : Int32) (m_r : Int32) (g_R : Nat → Int32) (g_C : Nat → Int32) (m_rl : Int32) (m_lf : Int32) (m_ov : Int32) (x1 : Int32) : Int32 :=
  (if (cf_X6_canDo m_o m_f m_r g_R g_C m_rl m_lf m_ov (4 : Int32)) = 0 then cf_X6_canDoMany_s21_4  m_o m_f m_r g_R g_C m_rl m_lf m_ov x1 else cf_X6_canDoMany_s21_4  m_o m_f m_r g_R g_C m_rl m_lf m_ov (x1 + (1 : Int32)))
def vc_X6_canDoMany_s4_4  (m_o : Int32) (m_f : Int32) (m_r : Int32) (g_R : Nat → Int32) (g_C : Nat → Int32) (m_rl : Int32) (m_lf : Int32) (m_ov : Int32) (x1 : Int32) : Prop :=
  (vc_X6_canDo m_o m_f m_r g_R g_C m_rl m_lf m_ov (4 : Int32) ∧ (((cf_X6_canDo m_o m_f m_r g_R g_C m_rl m_lf m_ov (4 : Int32)) = 0 → vc_X6_canDoMany_s21_4  m_o m_f m_r g_R g_C m_rl m_lf m_ov x1) ∧ (¬ (cf_X6_canDo m_o m_f m_r g_R g_C m_rl m_lf m_ov (4 : Int32)) = 0 → vc_X6_canDoMany_s21_4  m_o m_f m_r g_R g_C m_rl m_lf m_ov (x1 + (1 : Int32)))))
def cf_X6_canDoMany_s21_3  (m_o : Int32) (m_f : Int32) (m_r : Int32) (g_R : Nat → Int32) (g_C : Nat → Int32) (m_rl : Int32) (m_lf : Int32) (m_ov : Int32) (x1 : Int32) : Int32 :=
  cf_X6_canDoMany_s4_4  m_o m_f m_r g_R g_C m_rl m_lf m_ov x1
def vc_X6_canDoMany_s21_3  (m_o : Int32) (m_f : Int32) (m_r : Int32) (g_R : Nat → Int32) (g_C : Nat → Int32) (m_rl : Int32) (m_lf : Int32) (m_ov : Int32) (x1 : Int32) : Prop :=
  vc_X6_canDoMany_s4_4  m_o m_f m_r g_R g_C m_rl m_lf m_ov x1
def cf_X6_canDoMany_s4_3  (m_o : Int32) (m_f : Int32) (m_r : Int32) (g_R : Nat → Int32) (g_C : Nat → Int32) (m_rl : Int32) (m_lf : Int32) (m_ov : Int32) (x1 : Int32) : Int32 :=
  (if (cf_X6_canDo m_o m_f m_r g_R g_C m_rl m_lf m_ov (3 : Int32)) = 0 then cf_X6_canDoMany_s21_3  m_o m_f m_r g_R g_C m_rl m_lf m_ov x1 else cf_X6_canDoMany_s21_3  m_o m_f m_r g_R g_C m_rl m_lf m_ov (x1 + (1 : Int32)))
def vc_X6_canDoMany_s4_3  (m_o : Int32) (m_f : Int32) (m_r : Int32) (g_R : Nat → Int32) (g_C : Nat → Int32) (m_rl : Int32) (m_lf : Int32) (m_ov : Int32) (x1 : Int32) : Prop :=
  (vc_X6_canDo m_o m_f m_r g_R g_C m_rl m_lf m_ov (3 : Int32) ∧ (((cf_X6_canDo m_o m_f m_r g_R g_C m_rl m_lf m_ov (3 : Int32)) = 0 → vc_X6_canDoMany_s21_3  m_o m_f m_r g_R g_C m_rl m_lf m_ov x1) ∧ (¬ (cf_X6_canDo m_o m_f m_r g_R g_C m_rl m_lf m_ov (3 : Int32)) = 0 → vc_X6_canDoMany_s21_3  m_o m_f m_r g_R g_C m_rl m_lf m_ov (x1 + (1 : Int32)))))
def cf_X6_canDoMany_s21_2  (m_o : Int32) (m_f : Int32) (m_r : Int32) (g_R : Nat → Int32) (g_C : Nat → Int32) (m_rl : Int32) (m_lf : Int32) (m_ov : Int32) (x1 : Int32) : Int32 :=
  cf_X6_canDoMany_s4_3  m_o m_f m_r g_R g_C m_rl m_lf m_ov x1
def vc_X6_canDoMany_s21_2  (m_o : Int32) (m_f : Int32) (m_r : Int32) (g_R : Nat → Int32) (g_C : Nat → Int32) (m_rl : Int32) (m_lf : Int32) (m_ov : Int32) (x1 : Int32) : Prop :=
  vc_X6_canDoMany_s4_3  m_o m_f m_r g_R g_C m_rl m_lf m_ov x1
def cf_X6_canDoMany_s4_2  (m_o : Int32) (m_f : Int32) (m_r : Int32) (g_R : Nat → Int32) (g_C : Nat → Int32) (m_rl : Int32) (m_lf : Int32) (m_ov : Int32) (x1 : Int32) : Int32 :=
  (if (cf_X6_canDo m_o m_f m_r g_R g_C m_rl m_lf m_ov (2 : Int32)) = 0 then cf_X6_canDoMany_s21_2  m_o m_f m_r g_R g_C m_rl m_lf m_ov x1 else cf_X6_canDoMany_s21_2  m_o m_f m_r g_R g_C m_rl m_lf m_ov (x1 + (1 : Int32)))
def vc_X6_canDoMany_s4_2  (m_o : Int32) (m_f : Int32) (m_r : Int32) (g_R : Nat → Int32) (g_C : Nat → Int32) (m_rl : Int32) (m_lf : Int32) (m_ov : Int32) (x1 : Int32) : Prop :=
  (vc_X6_canDo m_o m_f m_r g_R g_C m_rl m_lf m_ov (2 : Int32) ∧ (((cf_X6_canDo m_o m_f m_r g_R g_C m_rl m_lf m_ov (2 : Int32)) = 0 → vc_X6_canDoMany_s21_2  m_o m_f m_r g_R g_C m_rl m_lf m_ov x1) ∧ (¬ (cf_X6_canDo m_o m_f m_r g_R g_C m_rl m_lf m_ov (2 : Int32)) = 0 → vc_X6_canDoMany_s21_2  m_o m_f m_r g_R g_C m_rl m_lf m_ov (x1 + (1 : Int32)))))
def cf_X6_canDoMany_s21_1  (m_o : Int32) (m_f : Int32) (m_r : Int32) (g_R : Nat → Int32) (g_C : Nat → Int32) (m_rl : Int32) (m_lf : Int32) (m_ov : Int32) (x1 : Int32) : Int32 :=
  cf_X6_canDoMany_s4_2  m_o m_f m_r g_R g_C m_rl m_lf m_ov x1
def vc_X6_canDoMany_s21_1  (m_o : Int32) (m_f : Int32) (m_r : Int32) (g_R : Nat → Int32) (g_C : Nat → Int32) (m_rl : Int32) (m_lf : Int32) (m_ov : Int32) (x1 : Int32) : Prop :=
  vc_X6_canDoMany_s4_2  m_o m_f m_r g_R g_C m_rl m_lf m_ov x1
def cf_X6_canDoMany_s4_1  (m_o : Int32) (m_f : Int32) (m_r : Int32) (g_R : Nat → Int32) (g_C : Nat → Int32) (m_rl : Int32) (m_lf : Int32) (m_ov : Int32) (x1 : Int32) : Int32 :=
  (if (cf_X6_canDo m_o m_f m_r g_R g_C m_rl m_lf m_ov (1 : Int32)) = 0 then cf_X6_canDoMany_s21_1  m_o m_f m_r g_R g_C m_rl m_lf m_ov x1 else cf_X6_canDoMany_s21_1  m_o m_f m_r g_R g_C m_rl m_lf m_ov (x1 + (1 : Int32)))
def vc_X6_canDoMany_s4_1  (m_o : Int32) (m_f : Int32) (m_r : Int32) (g_R : Nat → Int32) (g_C : Nat → Int32) (m_rl : Int32) (m_lf : Int32) (m_ov : Int32) (x1 : Int32) : Prop :=
  (vc_X6_canDo m_o m_f m_r g_R g_C m_rl m_lf m_ov (1 : Int32) ∧ (((cf_X6_canDo m_o m_f m_r g_R g_C m_rl m_lf m_ov (1 : Int32)) = 0 → vc_X6_canDoMany_s21_1  m_o m_f m_r g_R g_C m_rl m_lf m_ov x1) ∧ (¬ (cf_X6_canDo m_o m_f m_r g_R g_C m_rl m_lf m_ov (1 : Int32)) = 0 → vc_X6_canDoMany_s21_1  m_o m_f m_r g_R g_C m_rl m_lf m_ov (x1 + (1 : Int32)))))
def cf_X6_canDoMany_s21_0  (m_o : Int32) (m_f : Int32) (m_r : Int32) (g_R : Nat → Int32) (g_C : Nat → Int32) (m_rl : Int32) (m_lf : Int32) (m_ov : Int32) (x1 : Int32) : Int32 :=
  cf_X6_canDoMany_s4_1  m_o m_f m_r g_R g_C m_rl m_lf m_ov x1
def vc_X6_canDoMany_s21_0  (m_o : Int32) (m_f : Int32) (m_r : Int32) (g_R : Nat → Int32) (g_C : Nat → Int32) (m_rl : Int32) (m_lf : Int32) (m_ov : Int32) (x1 : Int32) : Prop :=
  vc_X6_canDoMany_s4_1  m_o m_f m_r g_R g_C m_rl m_lf m_ov x1
def cf_X6_canDoMany_s4_0  (m_o : Int32) (m_f : Int32) (m_r : Int32) (g_R : Nat → Int32) (g_C : Nat → Int32) (m_rl : Int32) (m_lf : Int32) (m_ov : Int32) (x1 : Int32) : Int32 :=
  (if (cf_X6_canDo m_o m_f m_r g_R g_C m_rl m_lf m_ov (0 : Int32)) = 0 then cf_X6_canDoMany_s21_0  m_o m_f m_r g_R g_C m_rl m_lf m_ov x1 else cf_X6_canDoMany_s21_0  m_o m_f m_r g_R g_C m_rl m_lf m_ov (x1 + (1 : Int32)))
def vc_X6_canDoMany_s4_0  (m_o : Int32) (m_f : Int32) (m_r : Int32) (g_R : Nat → Int32) (g_C : Nat → Int32) (m_rl : Int32) (m_lf : Int32) (m_ov : Int32) (x1 : Int32) : Prop :=
  (vc_X6_canDo m_o m_f m_r g_R g_C m_rl m_lf m_ov (0 : Int32) ∧ (((cf_X6_canDo m_o m_f m_r g_R g_C m_rl m_lf m_ov (0 : Int32)) = 0 → vc_X6_canDoMany_s21_0  m_o m_f m_r g_R g_C m_rl m_lf m_ov x1) ∧ (¬ (cf_X6_canDo m_o m_f m_r g_R g_C m_rl m_lf m_ov (0 : Int32)) = 0 → vc_X6_canDoMany_s21_0  m_o m_f m_r g_R g_C m_rl m_lf m_ov (x1 + (1 : Int32)))))
def cf_X6_canDoMany (m_o : Int32) (m_f : Int32) (m_r : Int32) (g_R : Nat → Int32) (g_C : Nat → Int32) (m_rl : Int32) (m_lf : Int32) (m_ov : Int32)  : Int32 :=
  cf_X6_canDoMany_s4_0  m_o m_f m_r g_R g_C m_rl m_lf m_ov (0 : Int32)
def vc_X6_canDoMany (m_o : Int32) (m_f : Int32) (m_r : Int32) (g_R : Nat → Int32) (g_C : Nat → Int32) (m_rl : Int32) (m_lf : Int32) (m_ov : Int32)  : Prop :=
  vc_X6_canDoMany_s4_0  m_o m_f m_r g_R g_C m_rl m_lf m_ov (0 : Int32)
set_option maxHeartbeats 4000000 in
set_option maxRecDepth 100000 in
theorem c_X6_canDoMany (l : Launch) (dC : Nat → ClassId) (dI : Nat → Nat → Nat) (q6 qA qB qF qR qC qL qS qO qY qH qW qM : Nat) (cyI cyJ cyZ : ClassId) (m_th : Int32) (m_o : Int32) (m_f : Int32) (m_r : Int32) (m_b : Int32) (m_a : Int32) (u_F : Nat → Int32) (u_R : Nat → Int32) (g_F : Nat → Int32) (g_R : Nat → Int32) (g_C : Nat → Int32) (g_L : Nat → Int32) (m_rl : Int32) (m_lf : Int32) (m_ov : Int32) (m_pl : Int64) (g_S : Nat → Int64) (g_O : Nat → Int32) (g_Y : Nat → Int32) (g_H : Nat → Int32) (m_st : Int32) (g_W : Nat → Int32) (m_rm : Int32) (m_fs : Int32) (g_M : Nat → Int32)  (hm_o : m_o ≤ 4) (hV : vc_X6_canDoMany m_o m_f m_r g_R g_C m_rl m_lf m_ov ) : Met l yX6_canDoMany wsX6_canDoMany ({ frames := 2, cells := 0, slots := 0, locals := 45 }) (rd_P [.ref q6] (dC, dI) kcl (mo_W q6 qA qB qF qR qC qL qS qO qY qH qW qM cyI cyJ cyZ m_th m_o m_f m_r m_b m_a u_F u_R g_F g_R g_C g_L m_rl m_lf m_ov m_pl g_S g_O g_Y g_H m_st g_W m_rm m_fs g_M) [(cyI, .int), (cyJ, .long), (cyZ, .boolean)]) (rd_Q (some (.int (cf_X6_canDoMany m_o m_f m_r g_R g_C m_rl m_lf m_ov )))) 0 0 (fun _ => False) := by
  refine Met.ofW (cc := cX6_canDoMany) (maxL := 3) (ret := (some .int)) (by decide) rfl ?_
  intro p e s m args below meth c s₁ B hml hv
  obtain ⟨rfl, hP, hK⟩ := hv
  have hx := B.exec
  have hb := B.bytes
  have hr := B.returns
  have hts := atoms_spec (ws := wsX6_canDoMany) B.pre
  have hown : s.vm.findClass RX6 = some m.cls := findClass_of_methodNamed B.named
  have hlocks := B.notSynchronized
  have hP : va_P (dC, dI) kcl (mo_W q6 qA qB qF qR qC qL qS qO qY qH qW qM cyI cyJ cyZ m_th m_o m_f m_r m_b m_a u_F u_R g_F g_R g_C g_L m_rl m_lf m_ov m_pl g_S g_O g_Y g_H m_st g_W m_rm m_fs g_M) s.heap := hP
  generalize hR : (cf_X6_canDoMany m_o m_f m_r g_R g_C m_rl m_lf m_ov ) = R
  have Ks4_50 : ∀  (x1 : Int32) (ls : Array Slot), lv_has ls 3 [(0, .ref q6), (1, .int x1), (2, .int (50 : Int32))] → cf_X6_canDoMany_s4_50  m_o m_f m_r g_R g_C m_rl m_lf m_ov x1 = R → W p l e (headSpec wsX6_canDoMany ({ frames := 2, cells := 0, slots := 0, locals := 45 })).room s m ([.ref q6] : List Value).toArray below meth c s.heap [] 0 0 (MQ below (rd_Q (some (.int R))) ([.ref q6] : List Value).toArray s 0 0 (fun _ => False)) (F0 m 4 ls []) := by
    intro  x1 ls hl hR
    unfold cf_X6_canDoMany_s4_50 at hR
    refine lv_iload_n hx hb dX6_canDoMany_4 rfl (lv_at hl 2 rfl) ?_
    refine lv_bipush (v := (50 : Int32)) hx hb dX6_canDoMany_5 (by decide +kernel) ?_
    refine lv_icmp_ge (tgt := 27) hx hb dX6_canDoMany_7 (by decide) (fun _ => ?_) (fun c_0 => absurd c_0 (by decide +kernel))
    refine lv_iload_n hx hb dX6_canDoMany_27 rfl (lv_at hl 1 rfl) ?_
    exact W.iret (v := x1) hx hb hr (fun t ht _ => ⟨congrArg (fun z => Outcome.returned (some (Value.int z))) hR, ht⟩) t_nil dX6_canDoMany_28
  have Ks21_49 : ∀  (x1 : Int32) (ls : Array Slot), lv_has ls 3 [(0, .ref q6), (1, .int x1), (2, .int (49 : Int32))] → cf_X6_canDoMany_s21_49  m_o m_f m_r g_R g_C m_rl m_lf m_ov x1 = R → W p l e (headSpec wsX6_canDoMany ({ frames := 2, cells := 0, slots := 0, locals := 45 })).room s m ([.ref q6] : List Value).toArray below meth c s.heap [] 0 0 (MQ below (rd_Q (some (.int R))) ([.ref q6] : List Value).toArray s 0 0 (fun _ => False)) (F0 m 21 ls []) := by
    intro  x1 ls hl hR
    unfold cf_X6_canDoMany_s21_49 at hR
    refine lv_iinc (v := (50 : Int32)) (lv' := [(2, .int (50 : Int32)), (0, .ref q6), (1, .int x1)]) hx hb dX6_canDoMany_21 hl (k := 2) rfl (by decide +kernel) (by decide) rfl (fun ls hl => ?_)
    refine lv_goto (tgt := 4) hx hb dX6_canDoMany_24 (by decide) ?_
    exact Ks4_50  x1 ls (lv_sub hl [1, 2, 0] rfl) hR
  have Ks4_49 : ∀  (x1 : Int32) (ls : Array Slot), lv_has ls 3 [(0, .ref q6), (1, .int x1), (2, .int (49 : Int32))] → vc_X6_canDoMany_s4_49  m_o m_f m_r g_R g_C m_rl m_lf m_ov x1 → cf_X6_canDoMany_s4_49  m_o m_f m_r g_R g_C m_rl m_lf m_ov x1 = R → W p l e (headSpec wsX6_canDoMany ({ frames := 2, cells := 0, slots := 0, locals := 45 })).room s m ([.ref q6] : List Value).toArray below meth c s.heap [] 0 0 (MQ below (rd_Q (some (.int R))) ([.ref q6] : List Value).toArray s 0 0 (fun _ => False)) (F0 m 4 ls []) := by
    intro  x1 ls hl hV hR
    unfold cf_X6_canDoMany_s4_49 at hR
    unfold vc_X6_canDoMany_s4_49 at hV
    refine lv_iload_n hx hb dX6_canDoMany_4 rfl (lv_at hl 2 rfl) ?_
    refine lv_bipush (v := (50 : Int32)) hx hb dX6_canDoMany_5 (by decide +kernel) ?_
    refine lv_icmp_ge (tgt := 27) hx hb dX6_canDoMany_7 (by decide) (fun c_0 => absurd c_0 (by decide +kernel)) (fun _ => ?_)
    refine lv_aload_n hx hb dX6_canDoMany_10 rfl (lv_at hl 0 rfl) ?_
    refine lv_iload_n hx hb dX6_canDoMany_11 rfl (lv_at hl 2 rfl) ?_
    obtain ⟨hv99, hV⟩ := hV
    refine rd_calli (va_runV (As := [.int (49 : Int32)]) (rest := []) ⟨hx, hb, hml, hown, hts⟩ (c_X6_canDo l dC dI q6 qA qB qF qR qC qL qS qO qY qH qW qM cyI cyJ cyZ m_th m_o m_f m_r m_b m_a u_F u_R g_F g_R g_C g_L m_rl m_lf m_ov m_pl g_S g_O g_Y g_H m_st g_W m_rm m_fs g_M (49 : Int32) hm_o hv99) (cwV 1 hts gX6_canDoMany_X6_canDo rfl rfl rfl (by decide +kernel) ⟨Nat.le_of_ble_eq_true rfl, Nat.le_of_ble_eq_true rfl⟩) ⟨rd_blind, va_recv hK hP (ci := 4) (q0 := 0) rfl rfl, fun U hU hW => ⟨rfl, by rw [hU]; exact hP, va_K.moved hW.alike (hK.sub [0, 1, 2] rfl)⟩⟩ rfl rfl hl.1 rfl (lv_room (Nat.le_of_ble_eq_true rfl)) dX6_canDoMany_12 ⟨Nat.le_refl _, Nat.le_refl _⟩) ?_
    refine lv_if_eq (tgt := 21) hx hb dX6_canDoMany_15 (by decide) (fun c_100 => ?_) (fun c_100 => ?_)
    · rw [if_pos c_100] at hR
      exact Ks21_49  x1 ls (lv_sub hl [0, 1, 2] rfl) hR
    · rw [if_neg c_100] at hR
      refine lv_iinc (v := (x1 + (1 : Int32))) (lv' := [(1, .int (x1 + (1 : Int32))), (0, .ref q6), (2, .int (49 : Int32))]) hx hb dX6_canDoMany_18 hl (k := 1) rfl rfl (by decide) rfl (fun ls hl => ?_)
      exact Ks21_49  (x1 + (1 : Int32)) ls (lv_sub hl [1, 0, 2] rfl) hR
  have Ks21_48 : ∀  (x1 : Int32) (ls : Array Slot), lv_has ls 3 [(0, .ref q6), (1, .int x1), (2, .int (48 : Int32))] → vc_X6_canDoMany_s21_48  m_o m_f m_r g_R g_C m_rl m_lf m_ov x1 → cf_X6_canDoMany_s21_48  m_o m_f m_r g_R g_C m_rl m_lf m_ov x1 = R → W p l e (headSpec wsX6_canDoMany ({ frames := 2, cells := 0, slots := 0, locals := 45 })).room s m ([.ref q6] : List Value).toArray below meth c s.heap [] 0 0 (MQ below (rd_Q (some (.int R))) ([.ref q6] : List Value).toArray s 0 0 (fun _ => False)) (F0 m 21 ls []) := by
    intro  x1 ls hl hV hR
    unfold cf_X6_canDoMany_s21_48 at hR
    unfold vc_X6_canDoMany_s21_48 at hV
    refine lv_iinc (v := (49 : Int32)) (lv' := [(2, .int (49 : Int32)), (0, .ref q6), (1, .int x1)]) hx hb dX6_canDoMany_21 hl (k := 2) rfl (by decide +kernel) (by decide) rfl (fun ls hl => ?_)
    refine lv_goto (tgt := 4) hx hb dX6_canDoMany_24 (by decide) ?_
    exact Ks4_49  x1 ls (lv_sub hl [1, 2, 0] rfl) hV hR
  have Ks4_48 : ∀  (x1 : Int32) (ls : Array Slot), lv_has ls 3 [(0, .ref q6), (1, .int x1), (2, .int (48 : Int32))] → vc_X6_canDoMany_s4_48  m_o m_f m_r g_R g_C m_rl m_lf m_ov x1 → cf_X6_canDoMany_s4_48  m_o m_f m_r g_R g_C m_rl m_lf m_ov x1 = R → W p l e (headSpec wsX6_canDoMany ({ frames := 2, cells := 0, slots := 0, locals := 45 })).room s m ([.ref q6] : List Value).toArray below meth c s.heap [] 0 0 (MQ below (rd_Q (some (.int R))) ([.ref q6] : List Value).toArray s 0 0 (fun _ => False)) (F0 m 4 ls []) := by
    intro  x1 ls hl hV hR
    unfold cf_X6_canDoMany_s4_48 at hR
    unfold vc_X6_canDoMany_s4_48 at hV
    refine lv_iload_n hx hb dX6_canDoMany_4 rfl (lv_at hl 2 rfl) ?_
    refine lv_bipush (v := (50 : Int32)) hx hb dX6_canDoMany_5 (by decide +kernel) ?_
    refine lv_icmp_ge (tgt := 27) hx hb dX6_canDoMany_7 (by decide) (fun c_0 => absurd c_0 (by decide +kernel)) (fun _ => ?_)
    refine lv_aload_n hx hb dX6_canDoMany_10 rfl (lv_at hl 0 rfl) ?_
    refine lv_iload_n hx hb dX6_canDoMany_11 rfl (lv_at hl 2 rfl) ?_
    obtain ⟨hv97, hV⟩ := hV
    refine rd_calli (va_runV (As := [.int (48 : Int32)]) (rest := []) ⟨hx, hb, hml, hown, hts⟩ (c_X6_canDo l dC dI q6 qA qB qF qR qC qL qS qO qY qH qW qM cyI cyJ cyZ m_th m_o m_f m_r m_b m_a u_F u_R g_F g_R g_C g_L m_rl m_lf m_ov m_pl g_S g_O g_Y g_H m_st g_W m_rm m_fs g_M (48 : Int32) hm_o hv97) (cwV 1 hts gX6_canDoMany_X6_canDo rfl rfl rfl (by decide +kernel) ⟨Nat.le_of_ble_eq_true rfl, Nat.le_of_ble_eq_true rfl⟩) ⟨rd_blind, va_recv hK hP (ci := 4) (q0 := 0) rfl rfl, fun U hU hW => ⟨rfl, by rw [hU]; exact hP, va_K.moved hW.alike (hK.sub [0, 1, 2] rfl)⟩⟩ rfl rfl hl.1 rfl (lv_room (Nat.le_of_ble_eq_true rfl)) dX6_canDoMany_12 ⟨Nat.le_refl _, Nat.le_refl _⟩) ?_
    refine lv_if_eq (tgt := 21) hx hb dX6_canDoMany_15 (by decide) (fun c_98 => ?_) (fun c_98 => ?_)
    · rw [if_pos c_98] at hR
      have hV := hV.1 c_98
      exact Ks21_48  x1 ls (lv_sub hl [0, 1, 2] rfl) hV hR
    · rw [if_neg c_98] at hR
      have hV := hV.2 c_98
      refine lv_iinc (v := (x1 + (1 : Int32))) (lv' := [(1, .int (x1 + (1 : Int32))), (0, .ref q6), (2, .int (48 : Int32))]) hx hb dX6_canDoMany_18 hl (k := 1) rfl rfl (by decide) rfl (fun ls hl => ?_)
      exact Ks21_48  (x1 + (1 : Int32)) ls (lv_sub hl [1, 0, 2] rfl) hV hR
  have Ks21_47 : ∀  (x1 : Int32) (ls : Array Slot), lv_has ls 3 [(0, .ref q6), (1, .int x1), (2, .int (47 : Int32))] → vc_X6_canDoMany_s21_47  m_o m_f m_r g_R g_C m_rl m_lf m_ov x1 → cf_X6_canDoMany_s21_47  m_o m_f m_r g_R g_C m_rl m_lf m_ov x1 = R → W p l e (headSpec wsX6_canDoMany ({ frames := 2, cells := 0, slots := 0, locals := 45 })).room s m ([.ref q6] : List Value).toArray below meth c s.heap [] 0 0 (MQ below (rd_Q (some (.int R))) ([.ref q6] : List Value).toArray s 0 0 (fun _ => False)) (F0 m 21 ls []) := by
    intro  x1 ls hl hV hR
    unfold cf_X6_canDoMany_s21_47 at hR
    unfold vc_X6_canDoMany_s21_47 at hV
    refine lv_iinc (v := (48 : Int32)) (lv' := [(2, .int (48 : Int32)), (0, .ref q6), (1, .int x1)]) hx hb dX6_canDoMany_21 hl (k := 2) rfl (by decide +kernel) (by decide) rfl (fun ls hl => ?_)
    refine lv_goto (tgt := 4) hx hb dX6_canDoMany_24 (by decide) ?_
    exact Ks4_48  x1 ls (lv_sub hl [1, 2, 0] rfl) hV hR
  have Ks4_47 : ∀  (x1 : Int32) (ls : Array Slot), lv_has ls 3 [(0, .ref q6), (1, .int x1), (2, .int (47 : Int32))] → vc_X6_canDoMany_s4_47  m_o m_f m_r g_R g_C m_rl m_lf m_ov x1 → cf_X6_canDoMany_s4_47  m_o m_f m_r g_R g_C m_rl m_lf m_ov x1 = R → W p l e (headSpec wsX6_canDoMany ({ frames := 2, cells := 0, slots := 0, locals := 45 })).room s m ([.ref q6] : List Value).toArray below meth c s.heap [] 0 0 (MQ below (rd_Q (some (.int R))) ([.ref q6] : List Value).toArray s 0 0 (fun _ => False)) (F0 m 4 ls []) := by
    intro  x1 ls hl hV hR
    unfold cf_X6_canDoMany_s4_47 at hR
    unfold vc_X6_canDoMany_s4_47 at hV
    refine lv_iload_n hx hb dX6_canDoMany_4 rfl (lv_at hl 2 rfl) ?_
    refine lv_bipush (v := (50 : Int32)) hx hb dX6_canDoMany_5 (by decide +kernel) ?_
    refine lv_icmp_ge (tgt := 27) hx hb dX6_canDoMany_7 (by decide) (fun c_0 => absurd c_0 (by decide +kernel)) (fun _ => ?_)
    refine lv_aload_n hx hb dX6_canDoMany_10 rfl (lv_at hl 0 rfl) ?_
    refine lv_iload_n hx hb dX6_canDoMany_11 rfl (lv_at hl 2 rfl) ?_
    obtain ⟨hv95, hV⟩ := hV
    refine rd_calli (va_runV (As := [.int (47 : Int32)]) (rest := []) ⟨hx, hb, hml, hown, hts⟩ (c_X6_canDo l dC dI q6 qA qB qF qR qC qL qS qO qY qH qW qM cyI cyJ cyZ m_th m_o m_f m_r m_b m_a u_F u_R g_F g_R g_C g_L m_rl m_lf m_ov m_pl g_S g_O g_Y g_H m_st g_W m_rm m_fs g_M (47 : Int32) hm_o hv95) (cwV 1 hts gX6_canDoMany_X6_canDo rfl rfl rfl (by decide +kernel) ⟨Nat.le_of_ble_eq_true rfl, Nat.le_of_ble_eq_true rfl⟩) ⟨rd_blind, va_recv hK hP (ci := 4) (q0 := 0) rfl rfl, fun U hU hW => ⟨rfl, by rw [hU]; exact hP, va_K.moved hW.alike (hK.sub [0, 1, 2] rfl)⟩⟩ rfl rfl hl.1 rfl (lv_room (Nat.le_of_ble_eq_true rfl)) dX6_canDoMany_12 ⟨Nat.le_refl _, Nat.le_refl _⟩) ?_
    refine lv_if_eq (tgt := 21) hx hb dX6_canDoMany_15 (by decide) (fun c_96 => ?_) (fun c_96 => ?_)
    · rw [if_pos c_96] at hR
      have hV := hV.1 c_96
      exact Ks21_47  x1 ls (lv_sub hl [0, 1, 2] rfl) hV hR
    · rw [if_neg c_96] at hR
      have hV := hV.2 c_96
      refine lv_iinc (v := (x1 + (1 : Int32))) (lv' := [(1, .int (x1 + (1 : Int32))), (0, .ref q6), (2, .int (47 : Int32))]) hx hb dX6_canDoMany_18 hl (k := 1) rfl rfl (by decide) rfl (fun ls hl => ?_)
      exact Ks21_47  (x1 + (1 : Int32)) ls (lv_sub hl [1, 0, 2] rfl) hV hR
  have Ks21_46 : ∀  (x1 : Int32) (ls : Array Slot), lv_has ls 3 [(0, .ref q6), (1, .int x1), (2, .int (46 : Int32))] → vc_X6_canDoMany_s21_46  m_o m_f m_r g_R g_C m_rl m_lf m_ov x1 → cf_X6_canDoMany_s21_46  m_o m_f m_r g_R g_C m_rl m_lf m_ov x1 = R → W p l e (headSpec wsX6_canDoMany ({ frames := 2, cells := 0, slots := 0, locals := 45 })).room s m ([.ref q6] : List Value).toArray below meth c s.heap [] 0 0 (MQ below (rd_Q (some (.int R))) ([.ref q6] : List Value).toArray s 0 0 (fun _ => False)) (F0 m 21 ls []) := by
    intro  x1 ls hl hV hR
    unfold cf_X6_canDoMany_s21_46 at hR
    unfold vc_X6_canDoMany_s21_46 at hV
    refine lv_iinc (v := (47 : Int32)) (lv' := [(2, .int (47 : Int32)), (0, .ref q6), (1, .int x1)]) hx hb dX6_canDoMany_21 hl (k := 2) rfl (by decide +kernel) (by decide) rfl (fun ls hl => ?_)
    refine lv_goto (tgt := 4) hx hb dX6_canDoMany_24 (by decide) ?_
    exact Ks4_47  x1 ls (lv_sub hl [1, 2, 0] rfl) hV hR
  have Ks4_46 : ∀  (x1 : Int32) (ls : Array Slot), lv_has ls 3 [(0, .ref q6), (1, .int x1), (2, .int (46 : Int32))] → vc_X6_canDoMany_s4_46  m_o m_f m_r g_R g_C m_rl m_lf m_ov x1 → cf_X6_canDoMany_s4_46  m_o m_f m_r g_R g_C m_rl m_lf m_ov x1 = R → W p l e (headSpec wsX6_canDoMany ({ frames := 2, cells := 0, slots := 0, locals := 45 })).room s m ([.ref q6] : List Value).toArray below meth c s.heap [] 0 0 (MQ below (rd_Q (some (.int R))) ([.ref q6] : List Value).toArray s 0 0 (fun _ => False)) (F0 m 4 ls []) := by
    intro  x1 ls hl hV hR
    unfold cf_X6_canDoMany_s4_46 at hR
    unfold vc_X6_canDoMany_s4_46 at hV
    refine lv_iload_n hx hb dX6_canDoMany_4 rfl (lv_at hl 2 rfl) ?_
    refine lv_bipush (v := (50 : Int32)) hx hb dX6_canDoMany_5 (by decide +kernel) ?_
    refine lv_icmp_ge (tgt := 27) hx hb dX6_canDoMany_7 (by decide) (fun c_0 => absurd c_0 (by decide +kernel)) (fun _ => ?_)
    refine lv_aload_n hx hb dX6_canDoMany_10 rfl (lv_at hl 0 rfl) ?_
    refine lv_iload_n hx hb dX6_canDoMany_11 rfl (lv_at hl 2 rfl) ?_
    obtain ⟨hv93, hV⟩ := hV
    refine rd_calli (va_runV (As := [.int (46 : Int32)]) (rest := []) ⟨hx, hb, hml, hown, hts⟩ (c_X6_canDo l dC dI q6 qA qB qF qR qC qL qS qO qY qH qW qM cyI cyJ cyZ m_th m_o m_f m_r m_b m_a u_F u_R g_F g_R g_C g_L m_rl m_lf m_ov m_pl g_S g_O g_Y g_H m_st g_W m_rm m_fs g_M (46 : Int32) hm_o hv93) (cwV 1 hts gX6_canDoMany_X6_canDo rfl rfl rfl (by decide +kernel) ⟨Nat.le_of_ble_eq_true rfl, Nat.le_of_ble_eq_true rfl⟩) ⟨rd_blind, va_recv hK hP (ci := 4) (q0 := 0) rfl rfl, fun U hU hW => ⟨rfl, by rw [hU]; exact hP, va_K.moved hW.alike (hK.sub [0, 1, 2] rfl)⟩⟩ rfl rfl hl.1 rfl (lv_room (Nat.le_of_ble_eq_true rfl)) dX6_canDoMany_12 ⟨Nat.le_refl _, Nat.le_refl _⟩) ?_
    refine lv_if_eq (tgt := 21) hx hb dX6_canDoMany_15 (by decide) (fun c_94 => ?_) (fun c_94 => ?_)
    · rw [if_pos c_94] at hR
      have hV := hV.1 c_94
      exact Ks21_46  x1 ls (lv_sub hl [0, 1, 2] rfl) hV hR
    · rw [if_neg c_94] at hR
      have hV := hV.2 c_94
      refine lv_iinc (v := (x1 + (1 : Int32))) (lv' := [(1, .int (x1 + (1 : Int32))), (0, .ref q6), (2, .int (46 : Int32))]) hx hb dX6_canDoMany_18 hl (k := 1) rfl rfl (by decide) rfl (fun ls hl => ?_)
      exact Ks21_46  (x1 + (1 : Int32)) ls (lv_sub hl [1, 0, 2] rfl) hV hR
  have Ks21_45 : ∀  (x1 : Int32) (ls : Array Slot), lv_has ls 3 [(0, .ref q6), (1, .int x1), (2, .int (45 : Int32))] → vc_X6_canDoMany_s21_45  m_o m_f m_r g_R g_C m_rl m_lf m_ov x1 → cf_X6_canDoMany_s21_45  m_o m_f m_r g_R g_C m_rl m_lf m_ov x1 = R → W p l e (headSpec wsX6_canDoMany ({ frames := 2, cells := 0, slots := 0, locals := 45 })).room s m ([.ref q6] : List Value).toArray below meth c s.heap [] 0 0 (MQ below (rd_Q (some (.int R))) ([.ref q6] : List Value).toArray s 0 0 (fun _ => False)) (F0 m 21 ls []) := by
    intro  x1 ls hl hV hR
    unfold cf_X6_canDoMany_s21_45 at hR
    unfold vc_X6_canDoMany_s21_45 at hV
    refine lv_iinc (v := (46 : Int32)) (lv' := [(2, .int (46 : Int32)), (0, .ref q6), (1, .int x1)]) hx hb dX6_canDoMany_21 hl (k := 2) rfl (by decide +kernel) (by decide) rfl (fun ls hl => ?_)
    refine lv_goto (tgt := 4) hx hb dX6_canDoMany_24 (by decide) ?_
    exact Ks4_46  x1 ls (lv_sub hl [1, 2, 0] rfl) hV hR
  have Ks4_45 : ∀  (x1 : Int32) (ls : Array Slot), lv_has ls 3 [(0, .ref q6), (1, .int x1), (2, .int (45 : Int32))] → vc_X6_canDoMany_s4_45  m_o m_f m_r g_R g_C m_rl m_lf m_ov x1 → cf_X6_canDoMany_s4_45  m_o m_f m_r g_R g_C m_rl m_lf m_ov x1 = R → W p l e (headSpec wsX6_canDoMany ({ frames := 2, cells := 0, slots := 0, locals := 45 })).room s m ([.ref q6] : List Value).toArray below meth c s.heap [] 0 0 (MQ below (rd_Q (some (.int R))) ([.ref q6] : List Value).toArray s 0 0 (fun _ => False)) (F0 m 4 ls []) := by
    intro  x1 ls hl hV hR
    unfold cf_X6_canDoMany_s4_45 at hR
    unfold vc_X6_canDoMany_s4_45 at hV
    refine lv_iload_n hx hb dX6_canDoMany_4 rfl (lv_at hl 2 rfl) ?_
    refine lv_bipush (v := (50 : Int32)) hx hb dX6_canDoMany_5 (by decide +kernel) ?_
    refine lv_icmp_ge (tgt := 27) hx hb dX6_canDoMany_7 (by decide) (fun c_0 => absurd c_0 (by decide +kernel)) (fun _ => ?_)
    refine lv_aload_n hx hb dX6_canDoMany_10 rfl (lv_at hl 0 rfl) ?_
    refine lv_iload_n hx hb dX6_canDoMany_11 rfl (lv_at hl 2 rfl) ?_
    obtain ⟨hv91, hV⟩ := hV
    refine rd_calli (va_runV (As := [.int (45 : Int32)]) (rest := []) ⟨hx, hb, hml, hown, hts⟩ (c_X6_canDo l dC dI q6 qA qB qF qR qC qL qS qO qY qH qW qM cyI cyJ cyZ m_th m_o m_f m_r m_b m_a u_F u_R g_F g_R g_C g_L m_rl m_lf m_ov m_pl g_S g_O g_Y g_H m_st g_W m_rm m_fs g_M (45 : Int32) hm_o hv91) (cwV 1 hts gX6_canDoMany_X6_canDo rfl rfl rfl (by decide +kernel) ⟨Nat.le_of_ble_eq_true rfl, Nat.le_of_ble_eq_true rfl⟩) ⟨rd_blind, va_recv hK hP (ci := 4) (q0 := 0) rfl rfl, fun U hU hW => ⟨rfl, by rw [hU]; exact hP, va_K.moved hW.alike (hK.sub [0, 1, 2] rfl)⟩⟩ rfl rfl hl.1 rfl (lv_room (Nat.le_of_ble_eq_true rfl)) dX6_canDoMany_12 ⟨Nat.le_refl _, Nat.le_refl _⟩) ?_
    refine lv_if_eq (tgt := 21) hx hb dX6_canDoMany_15 (by decide) (fun c_92 => ?_) (fun c_92 => ?_)
    · rw [if_pos c_92] at hR
      have hV := hV.1 c_92
      exact Ks21_45  x1 ls (lv_sub hl [0, 1, 2] rfl) hV hR
    · rw [if_neg c_92] at hR
      have hV := hV.2 c_92
      refine lv_iinc (v := (x1 + (1 : Int32))) (lv' := [(1, .int (x1 + (1 : Int32))), (0, .ref q6), (2, .int (45 : Int32))]) hx hb dX6_canDoMany_18 hl (k := 1) rfl rfl (by decide) rfl (fun ls hl => ?_)
      exact Ks21_45  (x1 + (1 : Int32)) ls (lv_sub hl [1, 0, 2] rfl) hV hR
  have Ks21_44 : ∀  (x1 : Int32) (ls : Array Slot), lv_has ls 3 [(0, .ref q6), (1, .int x1), (2, .int (44 : Int32))] → vc_X6_canDoMany_s21_44  m_o m_f m_r g_R g_C m_rl m_lf m_ov x1 → cf_X6_canDoMany_s21_44  m_o m_f m_r g_R g_C m_rl m_lf m_ov x1 = R → W p l e (headSpec wsX6_canDoMany ({ frames := 2, cells := 0, slots := 0, locals := 45 })).room s m ([.ref q6] : List Value).toArray below meth c s.heap [] 0 0 (MQ below (rd_Q (some (.int R))) ([.ref q6] : List Value).toArray s 0 0 (fun _ => False)) (F0 m 21 ls []) := by
    intro  x1 ls hl hV hR
    unfold cf_X6_canDoMany_s21_44 at hR
    unfold vc_X6_canDoMany_s21_44 at hV
    refine lv_iinc (v := (45 : Int32)) (lv' := [(2, .int (45 : Int32)), (0, .ref q6), (1, .int x1)]) hx hb dX6_canDoMany_21 hl (k := 2) rfl (by decide +kernel) (by decide) rfl (fun ls hl => ?_)
    refine lv_goto (tgt := 4) hx hb dX6_canDoMany_24 (by decide) ?_
    exact Ks4_45  x1 ls (lv_sub hl [1, 2, 0] rfl) hV hR
  have Ks4_44 : ∀  (x1 : Int32) (ls : Array Slot), lv_has ls 3 [(0, .ref q6), (1, .int x1), (2, .int (44 : Int32))] → vc_X6_canDoMany_s4_44  m_o m_f m_r g_R g_C m_rl m_lf m_ov x1 → cf_X6_canDoMany_s4_44  m_o m_f m_r g_R g_C m_rl m_lf m_ov x1 = R → W p l e (headSpec wsX6_canDoMany ({ frames := 2, cells := 0, slots := 0, locals := 45 })).room s m ([.ref q6] : List Value).toArray below meth c s.heap [] 0 0 (MQ below (rd_Q (some (.int R))) ([.ref q6] : List Value).toArray s 0 0 (fun _ => False)) (F0 m 4 ls []) := by
    intro  x1 ls hl hV hR
    unfold cf_X6_canDoMany_s4_44 at hR
    unfold vc_X6_canDoMany_s4_44 at hV
    refine lv_iload_n hx hb dX6_canDoMany_4 rfl (lv_at hl 2 rfl) ?_
    refine lv_bipush (v := (50 : Int32)) hx hb dX6_canDoMany_5 (by decide +kernel) ?_
    refine lv_icmp_ge (tgt := 27) hx hb dX6_canDoMany_7 (by decide) (fun c_0 => absurd c_0 (by decide +kernel)) (fun _ => ?_)
    refine lv_aload_n hx hb dX6_canDoMany_10 rfl (lv_at hl 0 rfl) ?_
    refine lv_iload_n hx hb dX6_canDoMany_11 rfl (lv_at hl 2 rfl) ?_
    obtain ⟨hv89, hV⟩ := hV
    refine rd_calli (va_runV (As := [.int (44 : Int32)]) (rest := []) ⟨hx, hb, hml, hown, hts⟩ (c_X6_canDo l dC dI q6 qA qB qF qR qC qL qS qO qY qH qW qM cyI cyJ cyZ m_th m_o m_f m_r m_b m_a u_F u_R g_F g_R g_C g_L m_rl m_lf m_ov m_pl g_S g_O g_Y g_H m_st g_W m_rm m_fs g_M (44 : Int32) hm_o hv89) (cwV 1 hts gX6_canDoMany_X6_canDo rfl rfl rfl (by decide +kernel) ⟨Nat.le_of_ble_eq_true rfl, Nat.le_of_ble_eq_true rfl⟩) ⟨rd_blind, va_recv hK hP (ci := 4) (q0 := 0) rfl rfl, fun U hU hW => ⟨rfl, by rw [hU]; exact hP, va_K.moved hW.alike (hK.sub [0, 1, 2] rfl)⟩⟩ rfl rfl hl.1 rfl (lv_room (Nat.le_of_ble_eq_true rfl)) dX6_canDoMany_12 ⟨Nat.le_refl _, Nat.le_refl _⟩) ?_
    refine lv_if_eq (tgt := 21) hx hb dX6_canDoMany_15 (by decide) (fun c_90 => ?_) (fun c_90 => ?_)
    · rw [if_pos c_90] at hR
      have hV := hV.1 c_90
      exact Ks21_44  x1 ls (lv_sub hl [0, 1, 2] rfl) hV hR
    · rw [if_neg c_90] at hR
      have hV := hV.2 c_90
      refine lv_iinc (v := (x1 + (1 : Int32))) (lv' := [(1, .int (x1 + (1 : Int32))), (0, .ref q6), (2, .int (44 : Int32))]) hx hb dX6_canDoMany_18 hl (k := 1) rfl rfl (by decide) rfl (fun ls hl => ?_)
      exact Ks21_44  (x1 + (1 : Int32)) ls (lv_sub hl [1, 0, 2] rfl) hV hR
  have Ks21_43 : ∀  (x1 : Int32) (ls : Array Slot), lv_has ls 3 [(0, .ref q6), (1, .int x1), (2, .int (43 : Int32))] → vc_X6_canDoMany_s21_43  m_o m_f m_r g_R g_C m_rl m_lf m_ov x1 → cf_X6_canDoMany_s21_43  m_o m_f m_r g_R g_C m_rl m_lf m_ov x1 = R → W p l e (headSpec wsX6_canDoMany ({ frames := 2, cells := 0, slots := 0, locals := 45 })).room s m ([.ref q6] : List Value).toArray below meth c s.heap [] 0 0 (MQ below (rd_Q (some (.int R))) ([.ref q6] : List Value).toArray s 0 0 (fun _ => False)) (F0 m 21 ls []) := by
    intro  x1 ls hl hV hR
    unfold cf_X6_canDoMany_s21_43 at hR
    unfold vc_X6_canDoMany_s21_43 at hV
    refine lv_iinc (v := (44 : Int32)) (lv' := [(2, .int (44 : Int32)), (0, .ref q6), (1, .int x1)]) hx hb dX6_canDoMany_21 hl (k := 2) rfl (by decide +kernel) (by decide) rfl (fun ls hl => ?_)
    refine lv_goto (tgt := 4) hx hb dX6_canDoMany_24 (by decide) ?_
    exact Ks4_44  x1 ls (lv_sub hl [1, 2, 0] rfl) hV hR
  have Ks4_43 : ∀  (x1 : Int32) (ls : Array Slot), lv_has ls 3 [(0, .ref q6), (1, .int x1), (2, .int (43 : Int32))] → vc_X6_canDoMany_s4_43  m_o m_f m_r g_R g_C m_rl m_lf m_ov x1 → cf_X6_canDoMany_s4_43  m_o m_f m_r g_R g_C m_rl m_lf m_ov x1 = R → W p l e (headSpec wsX6_canDoMany ({ frames := 2, cells := 0, slots := 0, locals := 45 })).room s m ([.ref q6] : List Value).toArray below meth c s.heap [] 0 0 (MQ below (rd_Q (some (.int R))) ([.ref q6] : List Value).toArray s 0 0 (fun _ => False)) (F0 m 4 ls []) := by
    intro  x1 ls hl hV hR
    unfold cf_X6_canDoMany_s4_43 at hR
    unfold vc_X6_canDoMany_s4_43 at hV
    refine lv_iload_n hx hb dX6_canDoMany_4 rfl (lv_at hl 2 rfl) ?_
    refine lv_bipush (v := (50 : Int32)) hx hb dX6_canDoMany_5 (by decide +kernel) ?_
    refine lv_icmp_ge (tgt := 27) hx hb dX6_canDoMany_7 (by decide) (fun c_0 => absurd c_0 (by decide +kernel)) (fun _ => ?_)
    refine lv_aload_n hx hb dX6_canDoMany_10 rfl (lv_at hl 0 rfl) ?_
    refine lv_iload_n hx hb dX6_canDoMany_11 rfl (lv_at hl 2 rfl) ?_
    obtain ⟨hv87, hV⟩ := hV
    refine rd_calli (va_runV (As := [.int (43 : Int32)]) (rest := []) ⟨hx, hb, hml, hown, hts⟩ (c_X6_canDo l dC dI q6 qA qB qF qR qC qL qS qO qY qH qW qM cyI cyJ cyZ m_th m_o m_f m_r m_b m_a u_F u_R g_F g_R g_C g_L m_rl m_lf m_ov m_pl g_S g_O g_Y g_H m_st g_W m_rm m_fs g_M (43 : Int32) hm_o hv87) (cwV 1 hts gX6_canDoMany_X6_canDo rfl rfl rfl (by decide +kernel) ⟨Nat.le_of_ble_eq_true rfl, Nat.le_of_ble_eq_true rfl⟩) ⟨rd_blind, va_recv hK hP (ci := 4) (q0 := 0) rfl rfl, fun U hU hW => ⟨rfl, by rw [hU]; exact hP, va_K.moved hW.alike (hK.sub [0, 1, 2] rfl)⟩⟩ rfl rfl hl.1 rfl (lv_room (Nat.le_of_ble_eq_true rfl)) dX6_canDoMany_12 ⟨Nat.le_refl _, Nat.le_refl _⟩) ?_
    refine lv_if_eq (tgt := 21) hx hb dX6_canDoMany_15 (by decide) (fun c_88 => ?_) (fun c_88 => ?_)
    · rw [if_pos c_88] at hR
      have hV := hV.1 c_88
      exact Ks21_43  x1 ls (lv_sub hl [0, 1, 2] rfl) hV hR
    · rw [if_neg c_88] at hR
      have hV := hV.2 c_88
      refine lv_iinc (v := (x1 + (1 : Int32))) (lv' := [(1, .int (x1 + (1 : Int32))), (0, .ref q6), (2, .int (43 : Int32))]) hx hb dX6_canDoMany_18 hl (k := 1) rfl rfl (by decide) rfl (fun ls hl => ?_)
      exact Ks21_43  (x1 + (1 : Int32)) ls (lv_sub hl [1, 0, 2] rfl) hV hR
  have Ks21_42 : ∀  (x1 : Int32) (ls : Array Slot), lv_has ls 3 [(0, .ref q6), (1, .int x1), (2, .int (42 : Int32))] → vc_X6_canDoMany_s21_42  m_o m_f m_r g_R g_C m_rl m_lf m_ov x1 → cf_X6_canDoMany_s21_42  m_o m_f m_r g_R g_C m_rl m_lf m_ov x1 = R → W p l e (headSpec wsX6_canDoMany ({ frames := 2, cells := 0, slots := 0, locals := 45 })).room s m ([.ref q6] : List Value).toArray below meth c s.heap [] 0 0 (MQ below (rd_Q (some (.int R))) ([.ref q6] : List Value).toArray s 0 0 (fun _ => False)) (F0 m 21 ls []) := by
    intro  x1 ls hl hV hR
    unfold cf_X6_canDoMany_s21_42 at hR
    unfold vc_X6_canDoMany_s21_42 at hV
    refine lv_iinc (v := (43 : Int32)) (lv' := [(2, .int (43 : Int32)), (0, .ref q6), (1, .int x1)]) hx hb dX6_canDoMany_21 hl (k := 2) rfl (by decide +kernel) (by decide) rfl (fun ls hl => ?_)
    refine lv_goto (tgt := 4) hx hb dX6_canDoMany_24 (by decide) ?_
    exact Ks4_43  x1 ls (lv_sub hl [1, 2, 0] rfl) hV hR
  have Ks4_42 : ∀  (x1 : Int32) (ls : Array Slot), lv_has ls 3 [(0, .ref q6), (1, .int x1), (2, .int (42 : Int32))] → vc_X6_canDoMany_s4_42  m_o m_f m_r g_R g_C m_rl m_lf m_ov x1 → cf_X6_canDoMany_s4_42  m_o m_f m_r g_R g_C m_rl m_lf m_ov x1 = R → W p l e (headSpec wsX6_canDoMany ({ frames := 2, cells := 0, slots := 0, locals := 45 })).room s m ([.ref q6] : List Value).toArray below meth c s.heap [] 0 0 (MQ below (rd_Q (some (.int R))) ([.ref q6] : List Value).toArray s 0 0 (fun _ => False)) (F0 m 4 ls []) := by
    intro  x1 ls hl hV hR
    unfold cf_X6_canDoMany_s4_42 at hR
    unfold vc_X6_canDoMany_s4_42 at hV
    refine lv_iload_n hx hb dX6_canDoMany_4 rfl (lv_at hl 2 rfl) ?_
    refine lv_bipush (v := (50 : Int32)) hx hb dX6_canDoMany_5 (by decide +kernel) ?_
    refine lv_icmp_ge (tgt := 27) hx hb dX6_canDoMany_7 (by decide) (fun c_0 => absurd c_0 (by decide +kernel)) (fun _ => ?_)
    refine lv_aload_n hx hb dX6_canDoMany_10 rfl (lv_at hl 0 rfl) ?_
    refine lv_iload_n hx hb dX6_canDoMany_11 rfl (lv_at hl 2 rfl) ?_
    obtain ⟨hv85, hV⟩ := hV
    refine rd_calli (va_runV (As := [.int (42 : Int32)]) (rest := []) ⟨hx, hb, hml, hown, hts⟩ (c_X6_canDo l dC dI q6 qA qB qF qR qC qL qS qO qY qH qW qM cyI cyJ cyZ m_th m_o m_f m_r m_b m_a u_F u_R g_F g_R g_C g_L m_rl m_lf m_ov m_pl g_S g_O g_Y g_H m_st g_W m_rm m_fs g_M (42 : Int32) hm_o hv85) (cwV 1 hts gX6_canDoMany_X6_canDo rfl rfl rfl (by decide +kernel) ⟨Nat.le_of_ble_eq_true rfl, Nat.le_of_ble_eq_true rfl⟩) ⟨rd_blind, va_recv hK hP (ci := 4) (q0 := 0) rfl rfl, fun U hU hW => ⟨rfl, by rw [hU]; exact hP, va_K.moved hW.alike (hK.sub [0, 1, 2] rfl)⟩⟩ rfl rfl hl.1 rfl (lv_room (Nat.le_of_ble_eq_true rfl)) dX6_canDoMany_12 ⟨Nat.le_refl _, Nat.le_refl _⟩) ?_
    refine lv_if_eq (tgt := 21) hx hb dX6_canDoMany_15 (by decide) (fun c_86 => ?_) (fun c_86 => ?_)
    · rw [if_pos c_86] at hR
      have hV := hV.1 c_86
      exact Ks21_42  x1 ls (lv_sub hl [0, 1, 2] rfl) hV hR
    · rw [if_neg c_86] at hR
      have hV := hV.2 c_86
      refine lv_iinc (v := (x1 + (1 : Int32))) (lv' := [(1, .int (x1 + (1 : Int32))), (0, .ref q6), (2, .int (42 : Int32))]) hx hb dX6_canDoMany_18 hl (k := 1) rfl rfl (by decide) rfl (fun ls hl => ?_)
      exact Ks21_42  (x1 + (1 : Int32)) ls (lv_sub hl [1, 0, 2] rfl) hV hR
  have Ks21_41 : ∀  (x1 : Int32) (ls : Array Slot), lv_has ls 3 [(0, .ref q6), (1, .int x1), (2, .int (41 : Int32))] → vc_X6_canDoMany_s21_41  m_o m_f m_r g_R g_C m_rl m_lf m_ov x1 → cf_X6_canDoMany_s21_41  m_o m_f m_r g_R g_C m_rl m_lf m_ov x1 = R → W p l e (headSpec wsX6_canDoMany ({ frames := 2, cells := 0, slots := 0, locals := 45 })).room s m ([.ref q6] : List Value).toArray below meth c s.heap [] 0 0 (MQ below (rd_Q (some (.int R))) ([.ref q6] : List Value).toArray s 0 0 (fun _ => False)) (F0 m 21 ls []) := by
    intro  x1 ls hl hV hR
    unfold cf_X6_canDoMany_s21_41 at hR
    unfold vc_X6_canDoMany_s21_41 at hV
    refine lv_iinc (v := (42 : Int32)) (lv' := [(2, .int (42 : Int32)), (0, .ref q6), (1, .int x1)]) hx hb dX6_canDoMany_21 hl (k := 2) rfl (by decide +kernel) (by decide) rfl (fun ls hl => ?_)
    refine lv_goto (tgt := 4) hx hb dX6_canDoMany_24 (by decide) ?_
    exact Ks4_42  x1 ls (lv_sub hl [1, 2, 0] rfl) hV hR
  have Ks4_41 : ∀  (x1 : Int32) (ls : Array Slot), lv_has ls 3 [(0, .ref q6), (1, .int x1), (2, .int (41 : Int32))] → vc_X6_canDoMany_s4_41  m_o m_f m_r g_R g_C m_rl m_lf m_ov x1 → cf_X6_canDoMany_s4_41  m_o m_f m_r g_R g_C m_rl m_lf m_ov x1 = R → W p l e (headSpec wsX6_canDoMany ({ frames := 2, cells := 0, slots := 0, locals := 45 })).room s m ([.ref q6] : List Value).toArray below meth c s.heap [] 0 0 (MQ below (rd_Q (some (.int R))) ([.ref q6] : List Value).toArray s 0 0 (fun _ => False)) (F0 m 4 ls []) := by
    intro  x1 ls hl hV hR
    unfold cf_X6_canDoMany_s4_41 at hR
    unfold vc_X6_canDoMany_s4_41 at hV
    refine lv_iload_n hx hb dX6_canDoMany_4 rfl (lv_at hl 2 rfl) ?_
    refine lv_bipush (v := (50 : Int32)) hx hb dX6_canDoMany_5 (by decide +kernel) ?_
    refine lv_icmp_ge (tgt := 27) hx hb dX6_canDoMany_7 (by decide) (fun c_0 => absurd c_0 (by decide +kernel)) (fun _ => ?_)
    refine lv_aload_n hx hb dX6_canDoMany_10 rfl (lv_at hl 0 rfl) ?_
    refine lv_iload_n hx hb dX6_canDoMany_11 rfl (lv_at hl 2 rfl) ?_
    obtain ⟨hv83, hV⟩ := hV
    refine rd_calli (va_runV (As := [.int (41 : Int32)]) (rest := []) ⟨hx, hb, hml, hown, hts⟩ (c_X6_canDo l dC dI q6 qA qB qF qR qC qL qS qO qY qH qW qM cyI cyJ cyZ m_th m_o m_f m_r m_b m_a u_F u_R g_F g_R g_C g_L m_rl m_lf m_ov m_pl g_S g_O g_Y g_H m_st g_W m_rm m_fs g_M (41 : Int32) hm_o hv83) (cwV 1 hts gX6_canDoMany_X6_canDo rfl rfl rfl (by decide +kernel) ⟨Nat.le_of_ble_eq_true rfl, Nat.le_of_ble_eq_true rfl⟩) ⟨rd_blind, va_recv hK hP (ci := 4) (q0 := 0) rfl rfl, fun U hU hW => ⟨rfl, by rw [hU]; exact hP, va_K.moved hW.alike (hK.sub [0, 1, 2] rfl)⟩⟩ rfl rfl hl.1 rfl (lv_room (Nat.le_of_ble_eq_true rfl)) dX6_canDoMany_12 ⟨Nat.le_refl _, Nat.le_refl _⟩) ?_
    refine lv_if_eq (tgt := 21) hx hb dX6_canDoMany_15 (by decide) (fun c_84 => ?_) (fun c_84 => ?_)
    · rw [if_pos c_84] at hR
      have hV := hV.1 c_84
      exact Ks21_41  x1 ls (lv_sub hl [0, 1, 2] rfl) hV hR
    · rw [if_neg c_84] at hR
      have hV := hV.2 c_84
      refine lv_iinc (v := (x1 + (1 : Int32))) (lv' := [(1, .int (x1 + (1 : Int32))), (0, .ref q6), (2, .int (41 : Int32))]) hx hb dX6_canDoMany_18 hl (k := 1) rfl rfl (by decide) rfl (fun ls hl => ?_)
      exact Ks21_41  (x1 + (1 : Int32)) ls (lv_sub hl [1, 0, 2] rfl) hV hR
  have Ks21_40 : ∀  (x1 : Int32) (ls : Array Slot), lv_has ls 3 [(0, .ref q6), (1, .int x1), (2, .int (40 : Int32))] → vc_X6_canDoMany_s21_40  m_o m_f m_r g_R g_C m_rl m_lf m_ov x1 → cf_X6_canDoMany_s21_40  m_o m_f m_r g_R g_C m_rl m_lf m_ov x1 = R → W p l e (headSpec wsX6_canDoMany ({ frames := 2, cells := 0, slots := 0, locals := 45 })).room s m ([.ref q6] : List Value).toArray below meth c s.heap [] 0 0 (MQ below (rd_Q (some (.int R))) ([.ref q6] : List Value).toArray s 0 0 (fun _ => False)) (F0 m 21 ls []) := by
    intro  x1 ls hl hV hR
    unfold cf_X6_canDoMany_s21_40 at hR
    unfold vc_X6_canDoMany_s21_40 at hV
    refine lv_iinc (v := (41 : Int32)) (lv' := [(2, .int (41 : Int32)), (0, .ref q6), (1, .int x1)]) hx hb dX6_canDoMany_21 hl (k := 2) rfl (by decide +kernel) (by decide) rfl (fun ls hl => ?_)
    refine lv_goto (tgt := 4) hx hb dX6_canDoMany_24 (by decide) ?_
    exact Ks4_41  x1 ls (lv_sub hl [1, 2, 0] rfl) hV hR
  have Ks4_40 : ∀  (x1 : Int32) (ls : Array Slot), lv_has ls 3 [(0, .ref q6), (1, .int x1), (2, .int (40 : Int32))] → vc_X6_canDoMany_s4_40  m_o m_f m_r g_R g_C m_rl m_lf m_ov x1 → cf_X6_canDoMany_s4_40  m_o m_f m_r g_R g_C m_rl m_lf m_ov x1 = R → W p l e (headSpec wsX6_canDoMany ({ frames := 2, cells := 0, slots := 0, locals := 45 })).room s m ([.ref q6] : List Value).toArray below meth c s.heap [] 0 0 (MQ below (rd_Q (some (.int R))) ([.ref q6] : List Value).toArray s 0 0 (fun _ => False)) (F0 m 4 ls []) := by
    intro  x1 ls hl hV hR
    unfold cf_X6_canDoMany_s4_40 at hR
    unfold vc_X6_canDoMany_s4_40 at hV
    refine lv_iload_n hx hb dX6_canDoMany_4 rfl (lv_at hl 2 rfl) ?_
    refine lv_bipush (v := (50 : Int32)) hx hb dX6_canDoMany_5 (by decide +kernel) ?_
    refine lv_icmp_ge (tgt := 27) hx hb dX6_canDoMany_7 (by decide) (fun c_0 => absurd c_0 (by decide +kernel)) (fun _ => ?_)
    refine lv_aload_n hx hb dX6_canDoMany_10 rfl (lv_at hl 0 rfl) ?_
    refine lv_iload_n hx hb dX6_canDoMany_11 rfl (lv_at hl 2 rfl) ?_
    obtain ⟨hv81, hV⟩ := hV
    refine rd_calli (va_runV (As := [.int (40 : Int32)]) (rest := []) ⟨hx, hb, hml, hown, hts⟩ (c_X6_canDo l dC dI q6 qA qB qF qR qC qL qS qO qY qH qW qM cyI cyJ cyZ m_th m_o m_f m_r m_b m_a u_F u_R g_F g_R g_C g_L m_rl m_lf m_ov m_pl g_S g_O g_Y g_H m_st g_W m_rm m_fs g_M (40 : Int32) hm_o hv81) (cwV 1 hts gX6_canDoMany_X6_canDo rfl rfl rfl (by decide +kernel) ⟨Nat.le_of_ble_eq_true rfl, Nat.le_of_ble_eq_true rfl⟩) ⟨rd_blind, va_recv hK hP (ci := 4) (q0 := 0) rfl rfl, fun U hU hW => ⟨rfl, by rw [hU]; exact hP, va_K.moved hW.alike (hK.sub [0, 1, 2] rfl)⟩⟩ rfl rfl hl.1 rfl (lv_room (Nat.le_of_ble_eq_true rfl)) dX6_canDoMany_12 ⟨Nat.le_refl _, Nat.le_refl _⟩) ?_
    refine lv_if_eq (tgt := 21) hx hb dX6_canDoMany_15 (by decide) (fun c_82 => ?_) (fun c_82 => ?_)
    · rw [if_pos c_82] at hR
      have hV := hV.1 c_82
      exact Ks21_40  x1 ls (lv_sub hl [0, 1, 2] rfl) hV hR
    · rw [if_neg c_82] at hR
      have hV := hV.2 c_82
      refine lv_iinc (v := (x1 + (1 : Int32))) (lv' := [(1, .int (x1 + (1 : Int32))), (0, .ref q6), (2, .int (40 : Int32))]) hx hb dX6_canDoMany_18 hl (k := 1) rfl rfl (by decide) rfl (fun ls hl => ?_)
      exact Ks21_40  (x1 + (1 : Int32)) ls (lv_sub hl [1, 0, 2] rfl) hV hR
  have Ks21_39 : ∀  (x1 : Int32) (ls : Array Slot), lv_has ls 3 [(0, .ref q6), (1, .int x1), (2, .int (39 : Int32))] → vc_X6_canDoMany_s21_39  m_o m_f m_r g_R g_C m_rl m_lf m_ov x1 → cf_X6_canDoMany_s21_39  m_o m_f m_r g_R g_C m_rl m_lf m_ov x1 = R → W p l e (headSpec wsX6_canDoMany ({ frames := 2, cells := 0, slots := 0, locals := 45 })).room s m ([.ref q6] : List Value).toArray below meth c s.heap [] 0 0 (MQ below (rd_Q (some (.int R))) ([.ref q6] : List Value).toArray s 0 0 (fun _ => False)) (F0 m 21 ls []) := by
    intro  x1 ls hl hV hR
    unfold cf_X6_canDoMany_s21_39 at hR
    unfold vc_X6_canDoMany_s21_39 at hV
    refine lv_iinc (v := (40 : Int32)) (lv' := [(2, .int (40 : Int32)), (0, .ref q6), (1, .int x1)]) hx hb dX6_canDoMany_21 hl (k := 2) rfl (by decide +kernel) (by decide) rfl (fun ls hl => ?_)
    refine lv_goto (tgt := 4) hx hb dX6_canDoMany_24 (by decide) ?_
    exact Ks4_40  x1 ls (lv_sub hl [1, 2, 0] rfl) hV hR
  have Ks4_39 : ∀  (x1 : Int32) (ls : Array Slot), lv_has ls 3 [(0, .ref q6), (1, .int x1), (2, .int (39 : Int32))] → vc_X6_canDoMany_s4_39  m_o m_f m_r g_R g_C m_rl m_lf m_ov x1 → cf_X6_canDoMany_s4_39  m_o m_f m_r g_R g_C m_rl m_lf m_ov x1 = R → W p l e (headSpec wsX6_canDoMany ({ frames := 2, cells := 0, slots := 0, locals := 45 })).room s m ([.ref q6] : List Value).toArray below meth c s.heap [] 0 0 (MQ below (rd_Q (some (.int R))) ([.ref q6] : List Value).toArray s 0 0 (fun _ => False)) (F0 m 4 ls []) := by
    intro  x1 ls hl hV hR
    unfold cf_X6_canDoMany_s4_39 at hR
    unfold vc_X6_canDoMany_s4_39 at hV
    refine lv_iload_n hx hb dX6_canDoMany_4 rfl (lv_at hl 2 rfl) ?_
    refine lv_bipush (v := (50 : Int32)) hx hb dX6_canDoMany_5 (by decide +kernel) ?_
    refine lv_icmp_ge (tgt := 27) hx hb dX6_canDoMany_7 (by decide) (fun c_0 => absurd c_0 (by decide +kernel)) (fun _ => ?_)
    refine lv_aload_n hx hb dX6_canDoMany_10 rfl (lv_at hl 0 rfl) ?_
    refine lv_iload_n hx hb dX6_canDoMany_11 rfl (lv_at hl 2 rfl) ?_
    obtain ⟨hv79, hV⟩ := hV
    refine rd_calli (va_runV (As := [.int (39 : Int32)]) (rest := []) ⟨hx, hb, hml, hown, hts⟩ (c_X6_canDo l dC dI q6 qA qB qF qR qC qL qS qO qY qH qW qM cyI cyJ cyZ m_th m_o m_f m_r m_b m_a u_F u_R g_F g_R g_C g_L m_rl m_lf m_ov m_pl g_S g_O g_Y g_H m_st g_W m_rm m_fs g_M (39 : Int32) hm_o hv79) (cwV 1 hts gX6_canDoMany_X6_canDo rfl rfl rfl (by decide +kernel) ⟨Nat.le_of_ble_eq_true rfl, Nat.le_of_ble_eq_true rfl⟩) ⟨rd_blind, va_recv hK hP (ci := 4) (q0 := 0) rfl rfl, fun U hU hW => ⟨rfl, by rw [hU]; exact hP, va_K.moved hW.alike (hK.sub [0, 1, 2] rfl)⟩⟩ rfl rfl hl.1 rfl (lv_room (Nat.le_of_ble_eq_true rfl)) dX6_canDoMany_12 ⟨Nat.le_refl _, Nat.le_refl _⟩) ?_
    refine lv_if_eq (tgt := 21) hx hb dX6_canDoMany_15 (by decide) (fun c_80 => ?_) (fun c_80 => ?_)
    · rw [if_pos c_80] at hR
      have hV := hV.1 c_80
      exact Ks21_39  x1 ls (lv_sub hl [0, 1, 2] rfl) hV hR
    · rw [if_neg c_80] at hR
      have hV := hV.2 c_80
      refine lv_iinc (v := (x1 + (1 : Int32))) (lv' := [(1, .int (x1 + (1 : Int32))), (0, .ref q6), (2, .int (39 : Int32))]) hx hb dX6_canDoMany_18 hl (k := 1) rfl rfl (by decide) rfl (fun ls hl => ?_)
      exact Ks21_39  (x1 + (1 : Int32)) ls (lv_sub hl [1, 0, 2] rfl) hV hR
  have Ks21_38 : ∀  (x1 : Int32) (ls : Array Slot), lv_has ls 3 [(0, .ref q6), (1, .int x1), (2, .int (38 : Int32))] → vc_X6_canDoMany_s21_38  m_o m_f m_r g_R g_C m_rl m_lf m_ov x1 → cf_X6_canDoMany_s21_38  m_o m_f m_r g_R g_C m_rl m_lf m_ov x1 = R → W p l e (headSpec wsX6_canDoMany ({ frames := 2, cells := 0, slots := 0, locals := 45 })).room s m ([.ref q6] : List Value).toArray below meth c s.heap [] 0 0 (MQ below (rd_Q (some (.int R))) ([.ref q6] : List Value).toArray s 0 0 (fun _ => False)) (F0 m 21 ls []) := by
    intro  x1 ls hl hV hR
    unfold cf_X6_canDoMany_s21_38 at hR
    unfold vc_X6_canDoMany_s21_38 at hV
    refine lv_iinc (v := (39 : Int32)) (lv' := [(2, .int (39 : Int32)), (0, .ref q6), (1, .int x1)]) hx hb dX6_canDoMany_21 hl (k := 2) rfl (by decide +kernel) (by decide) rfl (fun ls hl => ?_)
    refine lv_goto (tgt := 4) hx hb dX6_canDoMany_24 (by decide) ?_
    exact Ks4_39  x1 ls (lv_sub hl [1, 2, 0] rfl) hV hR
  have Ks4_38 : ∀  (x1 : Int32) (ls : Array Slot), lv_has ls 3 [(0, .ref q6), (1, .int x1), (2, .int (38 : Int32))] → vc_X6_canDoMany_s4_38  m_o m_f m_r g_R g_C m_rl m_lf m_ov x1 → cf_X6_canDoMany_s4_38  m_o m_f m_r g_R g_C m_rl m_lf m_ov x1 = R → W p l e (headSpec wsX6_canDoMany ({ frames := 2, cells := 0, slots := 0, locals := 45 })).room s m ([.ref q6] : List Value).toArray below meth c s.heap [] 0 0 (MQ below (rd_Q (some (.int R))) ([.ref q6] : List Value).toArray s 0 0 (fun _ => False)) (F0 m 4 ls []) := by
    intro  x1 ls hl hV hR
    unfold cf_X6_canDoMany_s4_38 at hR
    unfold vc_X6_canDoMany_s4_38 at hV
    refine lv_iload_n hx hb dX6_canDoMany_4 rfl (lv_at hl 2 rfl) ?_
    refine lv_bipush (v := (50 : Int32)) hx hb dX6_canDoMany_5 (by decide +kernel) ?_
    refine lv_icmp_ge (tgt := 27) hx hb dX6_canDoMany_7 (by decide) (fun c_0 => absurd c_0 (by decide +kernel)) (fun _ => ?_)
    refine lv_aload_n hx hb dX6_canDoMany_10 rfl (lv_at hl 0 rfl) ?_
    refine lv_iload_n hx hb dX6_canDoMany_11 rfl (lv_at hl 2 rfl) ?_
    obtain ⟨hv77, hV⟩ := hV
    refine rd_calli (va_runV (As := [.int (38 : Int32)]) (rest := []) ⟨hx, hb, hml, hown, hts⟩ (c_X6_canDo l dC dI q6 qA qB qF qR qC qL qS qO qY qH qW qM cyI cyJ cyZ m_th m_o m_f m_r m_b m_a u_F u_R g_F g_R g_C g_L m_rl m_lf m_ov m_pl g_S g_O g_Y g_H m_st g_W m_rm m_fs g_M (38 : Int32) hm_o hv77) (cwV 1 hts gX6_canDoMany_X6_canDo rfl rfl rfl (by decide +kernel) ⟨Nat.le_of_ble_eq_true rfl, Nat.le_of_ble_eq_true rfl⟩) ⟨rd_blind, va_recv hK hP (ci := 4) (q0 := 0) rfl rfl, fun U hU hW => ⟨rfl, by rw [hU]; exact hP, va_K.moved hW.alike (hK.sub [0, 1, 2] rfl)⟩⟩ rfl rfl hl.1 rfl (lv_room (Nat.le_of_ble_eq_true rfl)) dX6_canDoMany_12 ⟨Nat.le_refl _, Nat.le_refl _⟩) ?_
    refine lv_if_eq (tgt := 21) hx hb dX6_canDoMany_15 (by decide) (fun c_78 => ?_) (fun c_78 => ?_)
    · rw [if_pos c_78] at hR
      have hV := hV.1 c_78
      exact Ks21_38  x1 ls (lv_sub hl [0, 1, 2] rfl) hV hR
    · rw [if_neg c_78] at hR
      have hV := hV.2 c_78
      refine lv_iinc (v := (x1 + (1 : Int32))) (lv' := [(1, .int (x1 + (1 : Int32))), (0, .ref q6), (2, .int (38 : Int32))]) hx hb dX6_canDoMany_18 hl (k := 1) rfl rfl (by decide) rfl (fun ls hl => ?_)
      exact Ks21_38  (x1 + (1 : Int32)) ls (lv_sub hl [1, 0, 2] rfl) hV hR
  have Ks21_37 : ∀  (x1 : Int32) (ls : Array Slot), lv_has ls 3 [(0, .ref q6), (1, .int x1), (2, .int (37 : Int32))] → vc_X6_canDoMany_s21_37  m_o m_f m_r g_R g_C m_rl m_lf m_ov x1 → cf_X6_canDoMany_s21_37  m_o m_f m_r g_R g_C m_rl m_lf m_ov x1 = R → W p l e (headSpec wsX6_canDoMany ({ frames := 2, cells := 0, slots := 0, locals := 45 })).room s m ([.ref q6] : List Value).toArray below meth c s.heap [] 0 0 (MQ below (rd_Q (some (.int R))) ([.ref q6] : List Value).toArray s 0 0 (fun _ => False)) (F0 m 21 ls []) := by
    intro  x1 ls hl hV hR
    unfold cf_X6_canDoMany_s21_37 at hR
    unfold vc_X6_canDoMany_s21_37 at hV
    refine lv_iinc (v := (38 : Int32)) (lv' := [(2, .int (38 : Int32)), (0, .ref q6), (1, .int x1)]) hx hb dX6_canDoMany_21 hl (k := 2) rfl (by decide +kernel) (by decide) rfl (fun ls hl => ?_)
    refine lv_goto (tgt := 4) hx hb dX6_canDoMany_24 (by decide) ?_
    exact Ks4_38  x1 ls (lv_sub hl [1, 2, 0] rfl) hV hR
  have Ks4_37 : ∀  (x1 : Int32) (ls : Array Slot), lv_has ls 3 [(0, .ref q6), (1, .int x1), (2, .int (37 : Int32))] → vc_X6_canDoMany_s4_37  m_o m_f m_r g_R g_C m_rl m_lf m_ov x1 → cf_X6_canDoMany_s4_37  m_o m_f m_r g_R g_C m_rl m_lf m_ov x1 = R → W p l e (headSpec wsX6_canDoMany ({ frames := 2, cells := 0, slots := 0, locals := 45 })).room s m ([.ref q6] : List Value).toArray below meth c s.heap [] 0 0 (MQ below (rd_Q (some (.int R))) ([.ref q6] : List Value).toArray s 0 0 (fun _ => False)) (F0 m 4 ls []) := by
    intro  x1 ls hl hV hR
    unfold cf_X6_canDoMany_s4_37 at hR
    unfold vc_X6_canDoMany_s4_37 at hV
    refine lv_iload_n hx hb dX6_canDoMany_4 rfl (lv_at hl 2 rfl) ?_
    refine lv_bipush (v := (50 : Int32)) hx hb dX6_canDoMany_5 (by decide +kernel) ?_
    refine lv_icmp_ge (tgt := 27) hx hb dX6_canDoMany_7 (by decide) (fun c_0 => absurd c_0 (by decide +kernel)) (fun _ => ?_)
    refine lv_aload_n hx hb dX6_canDoMany_10 rfl (lv_at hl 0 rfl) ?_
    refine lv_iload_n hx hb dX6_canDoMany_11 rfl (lv_at hl 2 rfl) ?_
    obtain ⟨hv75, hV⟩ := hV
    refine rd_calli (va_runV (As := [.int (37 : Int32)]) (rest := []) ⟨hx, hb, hml, hown, hts⟩ (c_X6_canDo l dC dI q6 qA qB qF qR qC qL qS qO qY qH qW qM cyI cyJ cyZ m_th m_o m_f m_r m_b m_a u_F u_R g_F g_R g_C g_L m_rl m_lf m_ov m_pl g_S g_O g_Y g_H m_st g_W m_rm m_fs g_M (37 : Int32) hm_o hv75) (cwV 1 hts gX6_canDoMany_X6_canDo rfl rfl rfl (by decide +kernel) ⟨Nat.le_of_ble_eq_true rfl, Nat.le_of_ble_eq_true rfl⟩) ⟨rd_blind, va_recv hK hP (ci := 4) (q0 := 0) rfl rfl, fun U hU hW => ⟨rfl, by rw [hU]; exact hP, va_K.moved hW.alike (hK.sub [0, 1, 2] rfl)⟩⟩ rfl rfl hl.1 rfl (lv_room (Nat.le_of_ble_eq_true rfl)) dX6_canDoMany_12 ⟨Nat.le_refl _, Nat.le_refl _⟩) ?_
    refine lv_if_eq (tgt := 21) hx hb dX6_canDoMany_15 (by decide) (fun c_76 => ?_) (fun c_76 => ?_)
    · rw [if_pos c_76] at hR
      have hV := hV.1 c_76
      exact Ks21_37  x1 ls (lv_sub hl [0, 1, 2] rfl) hV hR
    · rw [if_neg c_76] at hR
      have hV := hV.2 c_76
      refine lv_iinc (v := (x1 + (1 : Int32))) (lv' := [(1, .int (x1 + (1 : Int32))), (0, .ref q6), (2, .int (37 : Int32))]) hx hb dX6_canDoMany_18 hl (k := 1) rfl rfl (by decide) rfl (fun ls hl => ?_)
      exact Ks21_37  (x1 + (1 : Int32)) ls (lv_sub hl [1, 0, 2] rfl) hV hR
  have Ks21_36 : ∀  (x1 : Int32) (ls : Array Slot), lv_has ls 3 [(0, .ref q6), (1, .int x1), (2, .int (36 : Int32))] → vc_X6_canDoMany_s21_36  m_o m_f m_r g_R g_C m_rl m_lf m_ov x1 → cf_X6_canDoMany_s21_36  m_o m_f m_r g_R g_C m_rl m_lf m_ov x1 = R → W p l e (headSpec wsX6_canDoMany ({ frames := 2, cells := 0, slots := 0, locals := 45 })).room s m ([.ref q6] : List Value).toArray below meth c s.heap [] 0 0 (MQ below (rd_Q (some (.int R))) ([.ref q6] : List Value).toArray s 0 0 (fun _ => False)) (F0 m 21 ls []) := by
    intro  x1 ls hl hV hR
    unfold cf_X6_canDoMany_s21_36 at hR
    unfold vc_X6_canDoMany_s21_36 at hV
    refine lv_iinc (v := (37 : Int32)) (lv' := [(2, .int (37 : Int32)), (0, .ref q6), (1, .int x1)]) hx hb dX6_canDoMany_21 hl (k := 2) rfl (by decide +kernel) (by decide) rfl (fun ls hl => ?_)
    refine lv_goto (tgt := 4) hx hb dX6_canDoMany_24 (by decide) ?_
    exact Ks4_37  x1 ls (lv_sub hl [1, 2, 0] rfl) hV hR
  have Ks4_36 : ∀  (x1 : Int32) (ls : Array Slot), lv_has ls 3 [(0, .ref q6), (1, .int x1), (2, .int (36 : Int32))] → vc_X6_canDoMany_s4_36  m_o m_f m_r g_R g_C m_rl m_lf m_ov x1 → cf_X6_canDoMany_s4_36  m_o m_f m_r g_R g_C m_rl m_lf m_ov x1 = R → W p l e (headSpec wsX6_canDoMany ({ frames := 2, cells := 0, slots := 0, locals := 45 })).room s m ([.ref q6] : List Value).toArray below meth c s.heap [] 0 0 (MQ below (rd_Q (some (.int R))) ([.ref q6] : List Value).toArray s 0 0 (fun _ => False)) (F0 m 4 ls []) := by
    intro  x1 ls hl hV hR
    unfold cf_X6_canDoMany_s4_36 at hR
    unfold vc_X6_canDoMany_s4_36 at hV
    refine lv_iload_n hx hb dX6_canDoMany_4 rfl (lv_at hl 2 rfl) ?_
    refine lv_bipush (v := (50 : Int32)) hx hb dX6_canDoMany_5 (by decide +kernel) ?_
    refine lv_icmp_ge (tgt := 27) hx hb dX6_canDoMany_7 (by decide) (fun c_0 => absurd c_0 (by decide +kernel)) (fun _ => ?_)
    refine lv_aload_n hx hb dX6_canDoMany_10 rfl (lv_at hl 0 rfl) ?_
    refine lv_iload_n hx hb dX6_canDoMany_11 rfl (lv_at hl 2 rfl) ?_
    obtain ⟨hv73, hV⟩ := hV
    refine rd_calli (va_runV (As := [.int (36 : Int32)]) (rest := []) ⟨hx, hb, hml, hown, hts⟩ (c_X6_canDo l dC dI q6 qA qB qF qR qC qL qS qO qY qH qW qM cyI cyJ cyZ m_th m_o m_f m_r m_b m_a u_F u_R g_F g_R g_C g_L m_rl m_lf m_ov m_pl g_S g_O g_Y g_H m_st g_W m_rm m_fs g_M (36 : Int32) hm_o hv73) (cwV 1 hts gX6_canDoMany_X6_canDo rfl rfl rfl (by decide +kernel) ⟨Nat.le_of_ble_eq_true rfl, Nat.le_of_ble_eq_true rfl⟩) ⟨rd_blind, va_recv hK hP (ci := 4) (q0 := 0) rfl rfl, fun U hU hW => ⟨rfl, by rw [hU]; exact hP, va_K.moved hW.alike (hK.sub [0, 1, 2] rfl)⟩⟩ rfl rfl hl.1 rfl (lv_room (Nat.le_of_ble_eq_true rfl)) dX6_canDoMany_12 ⟨Nat.le_refl _, Nat.le_refl _⟩) ?_
    refine lv_if_eq (tgt := 21) hx hb dX6_canDoMany_15 (by decide) (fun c_74 => ?_) (fun c_74 => ?_)
    · rw [if_pos c_74] at hR
      have hV := hV.1 c_74
      exact Ks21_36  x1 ls (lv_sub hl [0, 1, 2] rfl) hV hR
    · rw [if_neg c_74] at hR
      have hV := hV.2 c_74
      refine lv_iinc (v := (x1 + (1 : Int32))) (lv' := [(1, .int (x1 + (1 : Int32))), (0, .ref q6), (2, .int (36 : Int32))]) hx hb dX6_canDoMany_18 hl (k := 1) rfl rfl (by decide) rfl (fun ls hl => ?_)
      exact Ks21_36  (x1 + (1 : Int32)) ls (lv_sub hl [1, 0, 2] rfl) hV hR
  have Ks21_35 : ∀  (x1 : Int32) (ls : Array Slot), lv_has ls 3 [(0, .ref q6), (1, .int x1), (2, .int (35 : Int32))] → vc_X6_canDoMany_s21_35  m_o m_f m_r g_R g_C m_rl m_lf m_ov x1 → cf_X6_canDoMany_s21_35  m_o m_f m_r g_R g_C m_rl m_lf m_ov x1 = R → W p l e (headSpec wsX6_canDoMany ({ frames := 2, cells := 0, slots := 0, locals := 45 })).room s m ([.ref q6] : List Value).toArray below meth c s.heap [] 0 0 (MQ below (rd_Q (some (.int R))) ([.ref q6] : List Value).toArray s 0 0 (fun _ => False)) (F0 m 21 ls []) := by
    intro  x1 ls hl hV hR
    unfold cf_X6_canDoMany_s21_35 at hR
    unfold vc_X6_canDoMany_s21_35 at hV
    refine lv_iinc (v := (36 : Int32)) (lv' := [(2, .int (36 : Int32)), (0, .ref q6), (1, .int x1)]) hx hb dX6_canDoMany_21 hl (k := 2) rfl (by decide +kernel) (by decide) rfl (fun ls hl => ?_)
    refine lv_goto (tgt := 4) hx hb dX6_canDoMany_24 (by decide) ?_
    exact Ks4_36  x1 ls (lv_sub hl [1, 2, 0] rfl) hV hR
  have Ks4_35 : ∀  (x1 : Int32) (ls : Array Slot), lv_has ls 3 [(0, .ref q6), (1, .int x1), (2, .int (35 : Int32))] → vc_X6_canDoMany_s4_35  m_o m_f m_r g_R g_C m_rl m_lf m_ov x1 → cf_X6_canDoMany_s4_35  m_o m_f m_r g_R g_C m_rl m_lf m_ov x1 = R → W p l e (headSpec wsX6_canDoMany ({ frames := 2, cells := 0, slots := 0, locals := 45 })).room s m ([.ref q6] : List Value).toArray below meth c s.heap [] 0 0 (MQ below (rd_Q (some (.int R))) ([.ref q6] : List Value).toArray s 0 0 (fun _ => False)) (F0 m 4 ls []) := by
    intro  x1 ls hl hV hR
    unfold cf_X6_canDoMany_s4_35 at hR
    unfold vc_X6_canDoMany_s4_35 at hV
    refine lv_iload_n hx hb dX6_canDoMany_4 rfl (lv_at hl 2 rfl) ?_
    refine lv_bipush (v := (50 : Int32)) hx hb dX6_canDoMany_5 (by decide +kernel) ?_
    refine lv_icmp_ge (tgt := 27) hx hb dX6_canDoMany_7 (by decide) (fun c_0 => absurd c_0 (by decide +kernel)) (fun _ => ?_)
    refine lv_aload_n hx hb dX6_canDoMany_10 rfl (lv_at hl 0 rfl) ?_
    refine lv_iload_n hx hb dX6_canDoMany_11 rfl (lv_at hl 2 rfl) ?_
    obtain ⟨hv71, hV⟩ := hV
    refine rd_calli (va_runV (As := [.int (35 : Int32)]) (rest := []) ⟨hx, hb, hml, hown, hts⟩ (c_X6_canDo l dC dI q6 qA qB qF qR qC qL qS qO qY qH qW qM cyI cyJ cyZ m_th m_o m_f m_r m_b m_a u_F u_R g_F g_R g_C g_L m_rl m_lf m_ov m_pl g_S g_O g_Y g_H m_st g_W m_rm m_fs g_M (35 : Int32) hm_o hv71) (cwV 1 hts gX6_canDoMany_X6_canDo rfl rfl rfl (by decide +kernel) ⟨Nat.le_of_ble_eq_true rfl, Nat.le_of_ble_eq_true rfl⟩) ⟨rd_blind, va_recv hK hP (ci := 4) (q0 := 0) rfl rfl, fun U hU hW => ⟨rfl, by rw [hU]; exact hP, va_K.moved hW.alike (hK.sub [0, 1, 2] rfl)⟩⟩ rfl rfl hl.1 rfl (lv_room (Nat.le_of_ble_eq_true rfl)) dX6_canDoMany_12 ⟨Nat.le_refl _, Nat.le_refl _⟩) ?_
    refine lv_if_eq (tgt := 21) hx hb dX6_canDoMany_15 (by decide) (fun c_72 => ?_) (fun c_72 => ?_)
    · rw [if_pos c_72] at hR
      have hV := hV.1 c_72
      exact Ks21_35  x1 ls (lv_sub hl [0, 1, 2] rfl) hV hR
    · rw [if_neg c_72] at hR
      have hV := hV.2 c_72
      refine lv_iinc (v := (x1 + (1 : Int32))) (lv' := [(1, .int (x1 + (1 : Int32))), (0, .ref q6), (2, .int (35 : Int32))]) hx hb dX6_canDoMany_18 hl (k := 1) rfl rfl (by decide) rfl (fun ls hl => ?_)
      exact Ks21_35  (x1 + (1 : Int32)) ls (lv_sub hl [1, 0, 2] rfl) hV hR
  have Ks21_34 : ∀  (x1 : Int32) (ls : Array Slot), lv_has ls 3 [(0, .ref q6), (1, .int x1), (2, .int (34 : Int32))] → vc_X6_canDoMany_s21_34  m_o m_f m_r g_R g_C m_rl m_lf m_ov x1 → cf_X6_canDoMany_s21_34  m_o m_f m_r g_R g_C m_rl m_lf m_ov x1 = R → W p l e (headSpec wsX6_canDoMany ({ frames := 2, cells := 0, slots := 0, locals := 45 })).room s m ([.ref q6] : List Value).toArray below meth c s.heap [] 0 0 (MQ below (rd_Q (some (.int R))) ([.ref q6] : List Value).toArray s 0 0 (fun _ => False)) (F0 m 21 ls []) := by
    intro  x1 ls hl hV hR
    unfold cf_X6_canDoMany_s21_34 at hR
    unfold vc_X6_canDoMany_s21_34 at hV
    refine lv_iinc (v := (35 : Int32)) (lv' := [(2, .int (35 : Int32)), (0, .ref q6), (1, .int x1)]) hx hb dX6_canDoMany_21 hl (k := 2) rfl (by decide +kernel) (by decide) rfl (fun ls hl => ?_)
    refine lv_goto (tgt := 4) hx hb dX6_canDoMany_24 (by decide) ?_
    exact Ks4_35  x1 ls (lv_sub hl [1, 2, 0] rfl) hV hR
  have Ks4_34 : ∀  (x1 : Int32) (ls : Array Slot), lv_has ls 3 [(0, .ref q6), (1, .int x1), (2, .int (34 : Int32))] → vc_X6_canDoMany_s4_34  m_o m_f m_r g_R g_C m_rl m_lf m_ov x1 → cf_X6_canDoMany_s4_34  m_o m_f m_r g_R g_C m_rl m_lf m_ov x1 = R → W p l e (headSpec wsX6_canDoMany ({ frames := 2, cells := 0, slots := 0, locals := 45 })).room s m ([.ref q6] : List Value).toArray below meth c s.heap [] 0 0 (MQ below (rd_Q (some (.int R))) ([.ref q6] : List Value).toArray s 0 0 (fun _ => False)) (F0 m 4 ls []) := by
    intro  x1 ls hl hV hR
    unfold cf_X6_canDoMany_s4_34 at hR
    unfold vc_X6_canDoMany_s4_34 at hV
    refine lv_iload_n hx hb dX6_canDoMany_4 rfl (lv_at hl 2 rfl) ?_
    refine lv_bipush (v := (50 : Int32)) hx hb dX6_canDoMany_5 (by decide +kernel) ?_
    refine lv_icmp_ge (tgt := 27) hx hb dX6_canDoMany_7 (by decide) (fun c_0 => absurd c_0 (by decide +kernel)) (fun _ => ?_)
    refine lv_aload_n hx hb dX6_canDoMany_10 rfl (lv_at hl 0 rfl) ?_
    refine lv_iload_n hx hb dX6_canDoMany_11 rfl (lv_at hl 2 rfl) ?_
    obtain ⟨hv69, hV⟩ := hV
    refine rd_calli (va_runV (As := [.int (34 : Int32)]) (rest := []) ⟨hx, hb, hml, hown, hts⟩ (c_X6_canDo l dC dI q6 qA qB qF qR qC qL qS qO qY qH qW qM cyI cyJ cyZ m_th m_o m_f m_r m_b m_a u_F u_R g_F g_R g_C g_L m_rl m_lf m_ov m_pl g_S g_O g_Y g_H m_st g_W m_rm m_fs g_M (34 : Int32) hm_o hv69) (cwV 1 hts gX6_canDoMany_X6_canDo rfl rfl rfl (by decide +kernel) ⟨Nat.le_of_ble_eq_true rfl, Nat.le_of_ble_eq_true rfl⟩) ⟨rd_blind, va_recv hK hP (ci := 4) (q0 := 0) rfl rfl, fun U hU hW => ⟨rfl, by rw [hU]; exact hP, va_K.moved hW.alike (hK.sub [0, 1, 2] rfl)⟩⟩ rfl rfl hl.1 rfl (lv_room (Nat.le_of_ble_eq_true rfl)) dX6_canDoMany_12 ⟨Nat.le_refl _, Nat.le_refl _⟩) ?_
    refine lv_if_eq (tgt := 21) hx hb dX6_canDoMany_15 (by decide) (fun c_70 => ?_) (fun c_70 => ?_)
    · rw [if_pos c_70] at hR
      have hV := hV.1 c_70
      exact Ks21_34  x1 ls (lv_sub hl [0, 1, 2] rfl) hV hR
    · rw [if_neg c_70] at hR
      have hV := hV.2 c_70
      refine lv_iinc (v := (x1 + (1 : Int32))) (lv' := [(1, .int (x1 + (1 : Int32))), (0, .ref q6), (2, .int (34 : Int32))]) hx hb dX6_canDoMany_18 hl (k := 1) rfl rfl (by decide) rfl (fun ls hl => ?_)
      exact Ks21_34  (x1 + (1 : Int32)) ls (lv_sub hl [1, 0, 2] rfl) hV hR
  have Ks21_33 : ∀  (x1 : Int32) (ls : Array Slot), lv_has ls 3 [(0, .ref q6), (1, .int x1), (2, .int (33 : Int32))] → vc_X6_canDoMany_s21_33  m_o m_f m_r g_R g_C m_rl m_lf m_ov x1 → cf_X6_canDoMany_s21_33  m_o m_f m_r g_R g_C m_rl m_lf m_ov x1 = R → W p l e (headSpec wsX6_canDoMany ({ frames := 2, cells := 0, slots := 0, locals := 45 })).room s m ([.ref q6] : List Value).toArray below meth c s.heap [] 0 0 (MQ below (rd_Q (some (.int R))) ([.ref q6] : List Value).toArray s 0 0 (fun _ => False)) (F0 m 21 ls []) := by
    intro  x1 ls hl hV hR
    unfold cf_X6_canDoMany_s21_33 at hR
    unfold vc_X6_canDoMany_s21_33 at hV
    refine lv_iinc (v := (34 : Int32)) (lv' := [(2, .int (34 : Int32)), (0, .ref q6), (1, .int x1)]) hx hb dX6_canDoMany_21 hl (k := 2) rfl (by decide +kernel) (by decide) rfl (fun ls hl => ?_)
    refine lv_goto (tgt := 4) hx hb dX6_canDoMany_24 (by decide) ?_
    exact Ks4_34  x1 ls (lv_sub hl [1, 2, 0] rfl) hV hR
  have Ks4_33 : ∀  (x1 : Int32) (ls : Array Slot), lv_has ls 3 [(0, .ref q6), (1, .int x1), (2, .int (33 : Int32))] → vc_X6_canDoMany_s4_33  m_o m_f m_r g_R g_C m_rl m_lf m_ov x1 → cf_X6_canDoMany_s4_33  m_o m_f m_r g_R g_C m_rl m_lf m_ov x1 = R → W p l e (headSpec wsX6_canDoMany ({ frames := 2, cells := 0, slots := 0, locals := 45 })).room s m ([.ref q6] : List Value).toArray below meth c s.heap [] 0 0 (MQ below (rd_Q (some (.int R))) ([.ref q6] : List Value).toArray s 0 0 (fun _ => False)) (F0 m 4 ls []) := by
    intro  x1 ls hl hV hR
    unfold cf_X6_canDoMany_s4_33 at hR
    unfold vc_X6_canDoMany_s4_33 at hV
    refine lv_iload_n hx hb dX6_canDoMany_4 rfl (lv_at hl 2 rfl) ?_
    refine lv_bipush (v := (50 : Int32)) hx hb dX6_canDoMany_5 (by decide +kernel) ?_
    refine lv_icmp_ge (tgt := 27) hx hb dX6_canDoMany_7 (by decide) (fun c_0 => absurd c_0 (by decide +kernel)) (fun _ => ?_)
    refine lv_aload_n hx hb dX6_canDoMany_10 rfl (lv_at hl 0 rfl) ?_
    refine lv_iload_n hx hb dX6_canDoMany_11 rfl (lv_at hl 2 rfl) ?_
    obtain ⟨hv67, hV⟩ := hV
    refine rd_calli (va_runV (As := [.int (33 : Int32)]) (rest := []) ⟨hx, hb, hml, hown, hts⟩ (c_X6_canDo l dC dI q6 qA qB qF qR qC qL qS qO qY qH qW qM cyI cyJ cyZ m_th m_o m_f m_r m_b m_a u_F u_R g_F g_R g_C g_L m_rl m_lf m_ov m_pl g_S g_O g_Y g_H m_st g_W m_rm m_fs g_M (33 : Int32) hm_o hv67) (cwV 1 hts gX6_canDoMany_X6_canDo rfl rfl rfl (by decide +kernel) ⟨Nat.le_of_ble_eq_true rfl, Nat.le_of_ble_eq_true rfl⟩) ⟨rd_blind, va_recv hK hP (ci := 4) (q0 := 0) rfl rfl, fun U hU hW => ⟨rfl, by rw [hU]; exact hP, va_K.moved hW.alike (hK.sub [0, 1, 2] rfl)⟩⟩ rfl rfl hl.1 rfl (lv_room (Nat.le_of_ble_eq_true rfl)) dX6_canDoMany_12 ⟨Nat.le_refl _, Nat.le_refl _⟩) ?_
    refine lv_if_eq (tgt := 21) hx hb dX6_canDoMany_15 (by decide) (fun c_68 => ?_) (fun c_68 => ?_)
    · rw [if_pos c_68] at hR
      have hV := hV.1 c_68
      exact Ks21_33  x1 ls (lv_sub hl [0, 1, 2] rfl) hV hR
    · rw [if_neg c_68] at hR
      have hV := hV.2 c_68
      refine lv_iinc (v := (x1 + (1 : Int32))) (lv' := [(1, .int (x1 + (1 : Int32))), (0, .ref q6), (2, .int (33 : Int32))]) hx hb dX6_canDoMany_18 hl (k := 1) rfl rfl (by decide) rfl (fun ls hl => ?_)
      exact Ks21_33  (x1 + (1 : Int32)) ls (lv_sub hl [1, 0, 2] rfl) hV hR
  have Ks21_32 : ∀  (x1 : Int32) (ls : Array Slot), lv_has ls 3 [(0, .ref q6), (1, .int x1), (2, .int (32 : Int32))] → vc_X6_canDoMany_s21_32  m_o m_f m_r g_R g_C m_rl m_lf m_ov x1 → cf_X6_canDoMany_s21_32  m_o m_f m_r g_R g_C m_rl m_lf m_ov x1 = R → W p l e (headSpec wsX6_canDoMany ({ frames := 2, cells := 0, slots := 0, locals := 45 })).room s m ([.ref q6] : List Value).toArray below meth c s.heap [] 0 0 (MQ below (rd_Q (some (.int R))) ([.ref q6] : List Value).toArray s 0 0 (fun _ => False)) (F0 m 21 ls []) := by
    intro  x1 ls hl hV hR
    unfold cf_X6_canDoMany_s21_32 at hR
    unfold vc_X6_canDoMany_s21_32 at hV
    refine lv_iinc (v := (33 : Int32)) (lv' := [(2, .int (33 : Int32)), (0, .ref q6), (1, .int x1)]) hx hb dX6_canDoMany_21 hl (k := 2) rfl (by decide +kernel) (by decide) rfl (fun ls hl => ?_)
    refine lv_goto (tgt := 4) hx hb dX6_canDoMany_24 (by decide) ?_
    exact Ks4_33  x1 ls (lv_sub hl [1, 2, 0] rfl) hV hR
  have Ks4_32 : ∀  (x1 : Int32) (ls : Array Slot), lv_has ls 3 [(0, .ref q6), (1, .int x1), (2, .int (32 : Int32))] → vc_X6_canDoMany_s4_32  m_o m_f m_r g_R g_C m_rl m_lf m_ov x1 → cf_X6_canDoMany_s4_32  m_o m_f m_r g_R g_C m_rl m_lf m_ov x1 = R → W p l e (headSpec wsX6_canDoMany ({ frames := 2, cells := 0, slots := 0, locals := 45 })).room s m ([.ref q6] : List Value).toArray below meth c s.heap [] 0 0 (MQ below (rd_Q (some (.int R))) ([.ref q6] : List Value).toArray s 0 0 (fun _ => False)) (F0 m 4 ls []) := by
    intro  x1 ls hl hV hR
    unfold cf_X6_canDoMany_s4_32 at hR
    unfold vc_X6_canDoMany_s4_32 at hV
    refine lv_iload_n hx hb dX6_canDoMany_4 rfl (lv_at hl 2 rfl) ?_
    refine lv_bipush (v := (50 : Int32)) hx hb dX6_canDoMany_5 (by decide +kernel) ?_
    refine lv_icmp_ge (tgt := 27) hx hb dX6_canDoMany_7 (by decide) (fun c_0 => absurd c_0 (by decide +kernel)) (fun _ => ?_)
    refine lv_aload_n hx hb dX6_canDoMany_10 rfl (lv_at hl 0 rfl) ?_
    refine lv_iload_n hx hb dX6_canDoMany_11 rfl (lv_at hl 2 rfl) ?_
    obtain ⟨hv65, hV⟩ := hV
    refine rd_calli (va_runV (As := [.int (32 : Int32)]) (rest := []) ⟨hx, hb, hml, hown, hts⟩ (c_X6_canDo l dC dI q6 qA qB qF qR qC qL qS qO qY qH qW qM cyI cyJ cyZ m_th m_o m_f m_r m_b m_a u_F u_R g_F g_R g_C g_L m_rl m_lf m_ov m_pl g_S g_O g_Y g_H m_st g_W m_rm m_fs g_M (32 : Int32) hm_o hv65) (cwV 1 hts gX6_canDoMany_X6_canDo rfl rfl rfl (by decide +kernel) ⟨Nat.le_of_ble_eq_true rfl, Nat.le_of_ble_eq_true rfl⟩) ⟨rd_blind, va_recv hK hP (ci := 4) (q0 := 0) rfl rfl, fun U hU hW => ⟨rfl, by rw [hU]; exact hP, va_K.moved hW.alike (hK.sub [0, 1, 2] rfl)⟩⟩ rfl rfl hl.1 rfl (lv_room (Nat.le_of_ble_eq_true rfl)) dX6_canDoMany_12 ⟨Nat.le_refl _, Nat.le_refl _⟩) ?_
    refine lv_if_eq (tgt := 21) hx hb dX6_canDoMany_15 (by decide) (fun c_66 => ?_) (fun c_66 => ?_)
    · rw [if_pos c_66] at hR
      have hV := hV.1 c_66
      exact Ks21_32  x1 ls (lv_sub hl [0, 1, 2] rfl) hV hR
    · rw [if_neg c_66] at hR
      have hV := hV.2 c_66
      refine lv_iinc (v := (x1 + (1 : Int32))) (lv' := [(1, .int (x1 + (1 : Int32))), (0, .ref q6), (2, .int (32 : Int32))]) hx hb dX6_canDoMany_18 hl (k := 1) rfl rfl (by decide) rfl (fun ls hl => ?_)
      exact Ks21_32  (x1 + (1 : Int32)) ls (lv_sub hl [1, 0, 2] rfl) hV hR
  have Ks21_31 : ∀  (x1 : Int32) (ls : Array Slot), lv_has ls 3 [(0, .ref q6), (1, .int x1), (2, .int (31 : Int32))] → vc_X6_canDoMany_s21_31  m_o m_f m_r g_R g_C m_rl m_lf m_ov x1 → cf_X6_canDoMany_s21_31  m_o m_f m_r g_R g_C m_rl m_lf m_ov x1 = R → W p l e (headSpec wsX6_canDoMany ({ frames := 2, cells := 0, slots := 0, locals := 45 })).room s m ([.ref q6] : List Value).toArray below meth c s.heap [] 0 0 (MQ below (rd_Q (some (.int R))) ([.ref q6] : List Value).toArray s 0 0 (fun _ => False)) (F0 m 21 ls []) := by
    intro  x1 ls hl hV hR
    unfold cf_X6_canDoMany_s21_31 at hR
    unfold vc_X6_canDoMany_s21_31 at hV
    refine lv_iinc (v := (32 : Int32)) (lv' := [(2, .int (32 : Int32)), (0, .ref q6), (1, .int x1)]) hx hb dX6_canDoMany_21 hl (k := 2) rfl (by decide +kernel) (by decide) rfl (fun ls hl => ?_)
    refine lv_goto (tgt := 4) hx hb dX6_canDoMany_24 (by decide) ?_
    exact Ks4_32  x1 ls (lv_sub hl [1, 2, 0] rfl) hV hR
  have Ks4_31 : ∀  (x1 : Int32) (ls : Array Slot), lv_has ls 3 [(0, .ref q6), (1, .int x1), (2, .int (31 : Int32))] → vc_X6_canDoMany_s4_31  m_o m_f m_r g_R g_C m_rl m_lf m_ov x1 → cf_X6_canDoMany_s4_31  m_o m_f m_r g_R g_C m_rl m_lf m_ov x1 = R → W p l e (headSpec wsX6_canDoMany ({ frames := 2, cells := 0, slots := 0, locals := 45 })).room s m ([.ref q6] : List Value).toArray below meth c s.heap [] 0 0 (MQ below (rd_Q (some (.int R))) ([.ref q6] : List Value).toArray s 0 0 (fun _ => False)) (F0 m 4 ls []) := by
    intro  x1 ls hl hV hR
    unfold cf_X6_canDoMany_s4_31 at hR
    unfold vc_X6_canDoMany_s4_31 at hV
    refine lv_iload_n hx hb dX6_canDoMany_4 rfl (lv_at hl 2 rfl) ?_
    refine lv_bipush (v := (50 : Int32)) hx hb dX6_canDoMany_5 (by decide +kernel) ?_
    refine lv_icmp_ge (tgt := 27) hx hb dX6_canDoMany_7 (by decide) (fun c_0 => absurd c_0 (by decide +kernel)) (fun _ => ?_)
    refine lv_aload_n hx hb dX6_canDoMany_10 rfl (lv_at hl 0 rfl) ?_
    refine lv_iload_n hx hb dX6_canDoMany_11 rfl (lv_at hl 2 rfl) ?_
    obtain ⟨hv63, hV⟩ := hV
    refine rd_calli (va_runV (As := [.int (31 : Int32)]) (rest := []) ⟨hx, hb, hml, hown, hts⟩ (c_X6_canDo l dC dI q6 qA qB qF qR qC qL qS qO qY qH qW qM cyI cyJ cyZ m_th m_o m_f m_r m_b m_a u_F u_R g_F g_R g_C g_L m_rl m_lf m_ov m_pl g_S g_O g_Y g_H m_st g_W m_rm m_fs g_M (31 : Int32) hm_o hv63) (cwV 1 hts gX6_canDoMany_X6_canDo rfl rfl rfl (by decide +kernel) ⟨Nat.le_of_ble_eq_true rfl, Nat.le_of_ble_eq_true rfl⟩) ⟨rd_blind, va_recv hK hP (ci := 4) (q0 := 0) rfl rfl, fun U hU hW => ⟨rfl, by rw [hU]; exact hP, va_K.moved hW.alike (hK.sub [0, 1, 2] rfl)⟩⟩ rfl rfl hl.1 rfl (lv_room (Nat.le_of_ble_eq_true rfl)) dX6_canDoMany_12 ⟨Nat.le_refl _, Nat.le_refl _⟩) ?_
    refine lv_if_eq (tgt := 21) hx hb dX6_canDoMany_15 (by decide) (fun c_64 => ?_) (fun c_64 => ?_)
    · rw [if_pos c_64] at hR
      have hV := hV.1 c_64
      exact Ks21_31  x1 ls (lv_sub hl [0, 1, 2] rfl) hV hR
    · rw [if_neg c_64] at hR
      have hV := hV.2 c_64
      refine lv_iinc (v := (x1 + (1 : Int32))) (lv' := [(1, .int (x1 + (1 : Int32))), (0, .ref q6), (2, .int (31 : Int32))]) hx hb dX6_canDoMany_18 hl (k := 1) rfl rfl (by decide) rfl (fun ls hl => ?_)
      exact Ks21_31  (x1 + (1 : Int32)) ls (lv_sub hl [1, 0, 2] rfl) hV hR
  have Ks21_30 : ∀  (x1 : Int32) (ls : Array Slot), lv_has ls 3 [(0, .ref q6), (1, .int x1), (2, .int (30 : Int32))] → vc_X6_canDoMany_s21_30  m_o m_f m_r g_R g_C m_rl m_lf m_ov x1 → cf_X6_canDoMany_s21_30  m_o m_f m_r g_R g_C m_rl m_lf m_ov x1 = R → W p l e (headSpec wsX6_canDoMany ({ frames := 2, cells := 0, slots := 0, locals := 45 })).room s m ([.ref q6] : List Value).toArray below meth c s.heap [] 0 0 (MQ below (rd_Q (some (.int R))) ([.ref q6] : List Value).toArray s 0 0 (fun _ => False)) (F0 m 21 ls []) := by
    intro  x1 ls hl hV hR
    unfold cf_X6_canDoMany_s21_30 at hR
    unfold vc_X6_canDoMany_s21_30 at hV
    refine lv_iinc (v := (31 : Int32)) (lv' := [(2, .int (31 : Int32)), (0, .ref q6), (1, .int x1)]) hx hb dX6_canDoMany_21 hl (k := 2) rfl (by decide +kernel) (by decide) rfl (fun ls hl => ?_)
    refine lv_goto (tgt := 4) hx hb dX6_canDoMany_24 (by decide) ?_
    exact Ks4_31  x1 ls (lv_sub hl [1, 2, 0] rfl) hV hR
  have Ks4_30 : ∀  (x1 : Int32) (ls : Array Slot), lv_has ls 3 [(0, .ref q6), (1, .int x1), (2, .int (30 : Int32))] → vc_X6_canDoMany_s4_30  m_o m_f m_r g_R g_C m_rl m_lf m_ov x1 → cf_X6_canDoMany_s4_30  m_o m_f m_r g_R g_C m_rl m_lf m_ov x1 = R → W p l e (headSpec wsX6_canDoMany ({ frames := 2, cells := 0, slots := 0, locals := 45 })).room s m ([.ref q6] : List Value).toArray below meth c s.heap [] 0 0 (MQ below (rd_Q (some (.int R))) ([.ref q6] : List Value).toArray s 0 0 (fun _ => False)) (F0 m 4 ls []) := by
    intro  x1 ls hl hV hR
    unfold cf_X6_canDoMany_s4_30 at hR
    unfold vc_X6_canDoMany_s4_30 at hV
    refine lv_iload_n hx hb dX6_canDoMany_4 rfl (lv_at hl 2 rfl) ?_
    refine lv_bipush (v := (50 : Int32)) hx hb dX6_canDoMany_5 (by decide +kernel) ?_
    refine lv_icmp_ge (tgt := 27) hx hb dX6_canDoMany_7 (by decide) (fun c_0 => absurd c_0 (by decide +kernel)) (fun _ => ?_)
    refine lv_aload_n hx hb dX6_canDoMany_10 rfl (lv_at hl 0 rfl) ?_
    refine lv_iload_n hx hb dX6_canDoMany_11 rfl (lv_at hl 2 rfl) ?_
    obtain ⟨hv61, hV⟩ := hV
    refine rd_calli (va_runV (As := [.int (30 : Int32)]) (rest := []) ⟨hx, hb, hml, hown, hts⟩ (c_X6_canDo l dC dI q6 qA qB qF qR qC qL qS qO qY qH qW qM cyI cyJ cyZ m_th m_o m_f m_r m_b m_a u_F u_R g_F g_R g_C g_L m_rl m_lf m_ov m_pl g_S g_O g_Y g_H m_st g_W m_rm m_fs g_M (30 : Int32) hm_o hv61) (cwV 1 hts gX6_canDoMany_X6_canDo rfl rfl rfl (by decide +kernel) ⟨Nat.le_of_ble_eq_true rfl, Nat.le_of_ble_eq_true rfl⟩) ⟨rd_blind, va_recv hK hP (ci := 4) (q0 := 0) rfl rfl, fun U hU hW => ⟨rfl, by rw [hU]; exact hP, va_K.moved hW.alike (hK.sub [0, 1, 2] rfl)⟩⟩ rfl rfl hl.1 rfl (lv_room (Nat.le_of_ble_eq_true rfl)) dX6_canDoMany_12 ⟨Nat.le_refl _, Nat.le_refl _⟩) ?_
    refine lv_if_eq (tgt := 21) hx hb dX6_canDoMany_15 (by decide) (fun c_62 => ?_) (fun c_62 => ?_)
    · rw [if_pos c_62] at hR
      have hV := hV.1 c_62
      exact Ks21_30  x1 ls (lv_sub hl [0, 1, 2] rfl) hV hR
    · rw [if_neg c_62] at hR
      have hV := hV.2 c_62
      refine lv_iinc (v := (x1 + (1 : Int32))) (lv' := [(1, .int (x1 + (1 : Int32))), (0, .ref q6), (2, .int (30 : Int32))]) hx hb dX6_canDoMany_18 hl (k := 1) rfl rfl (by decide) rfl (fun ls hl => ?_)
      exact Ks21_30  (x1 + (1 : Int32)) ls (lv_sub hl [1, 0, 2] rfl) hV hR
  have Ks21_29 : ∀  (x1 : Int32) (ls : Array Slot), lv_has ls 3 [(0, .ref q6), (1, .int x1), (2, .int (29 : Int32))] → vc_X6_canDoMany_s21_29  m_o m_f m_r g_R g_C m_rl m_lf m_ov x1 → cf_X6_canDoMany_s21_29  m_o m_f m_r g_R g_C m_rl m_lf m_ov x1 = R → W p l e (headSpec wsX6_canDoMany ({ frames := 2, cells := 0, slots := 0, locals := 45 })).room s m ([.ref q6] : List Value).toArray below meth c s.heap [] 0 0 (MQ below (rd_Q (some (.int R))) ([.ref q6] : List Value).toArray s 0 0 (fun _ => False)) (F0 m 21 ls []) := by
    intro  x1 ls hl hV hR
    unfold cf_X6_canDoMany_s21_29 at hR
    unfold vc_X6_canDoMany_s21_29 at hV
    refine lv_iinc (v := (30 : Int32)) (lv' := [(2, .int (30 : Int32)), (0, .ref q6), (1, .int x1)]) hx hb dX6_canDoMany_21 hl (k := 2) rfl (by decide +kernel) (by decide) rfl (fun ls hl => ?_)
    refine lv_goto (tgt := 4) hx hb dX6_canDoMany_24 (by decide) ?_
    exact Ks4_30  x1 ls (lv_sub hl [1, 2, 0] rfl) hV hR
  have Ks4_29 : ∀  (x1 : Int32) (ls : Array Slot), lv_has ls 3 [(0, .ref q6), (1, .int x1), (2, .int (29 : Int32))] → vc_X6_canDoMany_s4_29  m_o m_f m_r g_R g_C m_rl m_lf m_ov x1 → cf_X6_canDoMany_s4_29  m_o m_f m_r g_R g_C m_rl m_lf m_ov x1 = R → W p l e (headSpec wsX6_canDoMany ({ frames := 2, cells := 0, slots := 0, locals := 45 })).room s m ([.ref q6] : List Value).toArray below meth c s.heap [] 0 0 (MQ below (rd_Q (some (.int R))) ([.ref q6] : List Value).toArray s 0 0 (fun _ => False)) (F0 m 4 ls []) := by
    intro  x1 ls hl hV hR
    unfold cf_X6_canDoMany_s4_29 at hR
    unfold vc_X6_canDoMany_s4_29 at hV
    refine lv_iload_n hx hb dX6_canDoMany_4 rfl (lv_at hl 2 rfl) ?_
    refine lv_bipush (v := (50 : Int32)) hx hb dX6_canDoMany_5 (by decide +kernel) ?_
    refine lv_icmp_ge (tgt := 27) hx hb dX6_canDoMany_7 (by decide) (fun c_0 => absurd c_0 (by decide +kernel)) (fun _ => ?_)
    refine lv_aload_n hx hb dX6_canDoMany_10 rfl (lv_at hl 0 rfl) ?_
    refine lv_iload_n hx hb dX6_canDoMany_11 rfl (lv_at hl 2 rfl) ?_
    obtain ⟨hv59, hV⟩ := hV
    refine rd_calli (va_runV (As := [.int (29 : Int32)]) (rest := []) ⟨hx, hb, hml, hown, hts⟩ (c_X6_canDo l dC dI q6 qA qB qF qR qC qL qS qO qY qH qW qM cyI cyJ cyZ m_th m_o m_f m_r m_b m_a u_F u_R g_F g_R g_C g_L m_rl m_lf m_ov m_pl g_S g_O g_Y g_H m_st g_W m_rm m_fs g_M (29 : Int32) hm_o hv59) (cwV 1 hts gX6_canDoMany_X6_canDo rfl rfl rfl (by decide +kernel) ⟨Nat.le_of_ble_eq_true rfl, Nat.le_of_ble_eq_true rfl⟩) ⟨rd_blind, va_recv hK hP (ci := 4) (q0 := 0) rfl rfl, fun U hU hW => ⟨rfl, by rw [hU]; exact hP, va_K.moved hW.alike (hK.sub [0, 1, 2] rfl)⟩⟩ rfl rfl hl.1 rfl (lv_room (Nat.le_of_ble_eq_true rfl)) dX6_canDoMany_12 ⟨Nat.le_refl _, Nat.le_refl _⟩) ?_
    refine lv_if_eq (tgt := 21) hx hb dX6_canDoMany_15 (by decide) (fun c_60 => ?_) (fun c_60 => ?_)
    · rw [if_pos c_60] at hR
      have hV := hV.1 c_60
      exact Ks21_29  x1 ls (lv_sub hl [0, 1, 2] rfl) hV hR
    · rw [if_neg c_60] at hR
      have hV := hV.2 c_60
      refine lv_iinc (v := (x1 + (1 : Int32))) (lv' := [(1, .int (x1 + (1 : Int32))), (0, .ref q6), (2, .int (29 : Int32))]) hx hb dX6_canDoMany_18 hl (k := 1) rfl rfl (by decide) rfl (fun ls hl => ?_)
      exact Ks21_29  (x1 + (1 : Int32)) ls (lv_sub hl [1, 0, 2] rfl) hV hR
  have Ks21_28 : ∀  (x1 : Int32) (ls : Array Slot), lv_has ls 3 [(0, .ref q6), (1, .int x1), (2, .int (28 : Int32))] → vc_X6_canDoMany_s21_28  m_o m_f m_r g_R g_C m_rl m_lf m_ov x1 → cf_X6_canDoMany_s21_28  m_o m_f m_r g_R g_C m_rl m_lf m_ov x1 = R → W p l e (headSpec wsX6_canDoMany ({ frames := 2, cells := 0, slots := 0, locals := 45 })).room s m ([.ref q6] : List Value).toArray below meth c s.heap [] 0 0 (MQ below (rd_Q (some (.int R))) ([.ref q6] : List Value).toArray s 0 0 (fun _ => False)) (F0 m 21 ls []) := by
    intro  x1 ls hl hV hR
    unfold cf_X6_canDoMany_s21_28 at hR
    unfold vc_X6_canDoMany_s21_28 at hV
    refine lv_iinc (v := (29 : Int32)) (lv' := [(2, .int (29 : Int32)), (0, .ref q6), (1, .int x1)]) hx hb dX6_canDoMany_21 hl (k := 2) rfl (by decide +kernel) (by decide) rfl (fun ls hl => ?_)
    refine lv_goto (tgt := 4) hx hb dX6_canDoMany_24 (by decide) ?_
    exact Ks4_29  x1 ls (lv_sub hl [1, 2, 0] rfl) hV hR
  have Ks4_28 : ∀  (x1 : Int32) (ls : Array Slot), lv_has ls 3 [(0, .ref q6), (1, .int x1), (2, .int (28 : Int32))] → vc_X6_canDoMany_s4_28  m_o m_f m_r g_R g_C m_rl m_lf m_ov x1 → cf_X6_canDoMany_s4_28  m_o m_f m_r g_R g_C m_rl m_lf m_ov x1 = R → W p l e (headSpec wsX6_canDoMany ({ frames := 2, cells := 0, slots := 0, locals := 45 })).room s m ([.ref q6] : List Value).toArray below meth c s.heap [] 0 0 (MQ below (rd_Q (some (.int R))) ([.ref q6] : List Value).toArray s 0 0 (fun _ => False)) (F0 m 4 ls []) := by
    intro  x1 ls hl hV hR
    unfold cf_X6_canDoMany_s4_28 at hR
    unfold vc_X6_canDoMany_s4_28 at hV
    refine lv_iload_n hx hb dX6_canDoMany_4 rfl (lv_at hl 2 rfl) ?_
    refine lv_bipush (v := (50 : Int32)) hx hb dX6_canDoMany_5 (by decide +kernel) ?_
    refine lv_icmp_ge (tgt := 27) hx hb dX6_canDoMany_7 (by decide) (fun c_0 => absurd c_0 (by decide +kernel)) (fun _ => ?_)
    refine lv_aload_n hx hb dX6_canDoMany_10 rfl (lv_at hl 0 rfl) ?_
    refine lv_iload_n hx hb dX6_canDoMany_11 rfl (lv_at hl 2 rfl) ?_
    obtain ⟨hv57, hV⟩ := hV
    refine rd_calli (va_runV (As := [.int (28 : Int32)]) (rest := []) ⟨hx, hb, hml, hown, hts⟩ (c_X6_canDo l dC dI q6 qA qB qF qR qC qL qS qO qY qH qW qM cyI cyJ cyZ m_th m_o m_f m_r m_b m_a u_F u_R g_F g_R g_C g_L m_rl m_lf m_ov m_pl g_S g_O g_Y g_H m_st g_W m_rm m_fs g_M (28 : Int32) hm_o hv57) (cwV 1 hts gX6_canDoMany_X6_canDo rfl rfl rfl (by decide +kernel) ⟨Nat.le_of_ble_eq_true rfl, Nat.le_of_ble_eq_true rfl⟩) ⟨rd_blind, va_recv hK hP (ci := 4) (q0 := 0) rfl rfl, fun U hU hW => ⟨rfl, by rw [hU]; exact hP, va_K.moved hW.alike (hK.sub [0, 1, 2] rfl)⟩⟩ rfl rfl hl.1 rfl (lv_room (Nat.le_of_ble_eq_true rfl)) dX6_canDoMany_12 ⟨Nat.le_refl _, Nat.le_refl _⟩) ?_
    refine lv_if_eq (tgt := 21) hx hb dX6_canDoMany_15 (by decide) (fun c_58 => ?_) (fun c_58 => ?_)
    · rw [if_pos c_58] at hR
      have hV := hV.1 c_58
      exact Ks21_28  x1 ls (lv_sub hl [0, 1, 2] rfl) hV hR
    · rw [if_neg c_58] at hR
      have hV := hV.2 c_58
      refine lv_iinc (v := (x1 + (1 : Int32))) (lv' := [(1, .int (x1 + (1 : Int32))), (0, .ref q6), (2, .int (28 : Int32))]) hx hb dX6_canDoMany_18 hl (k := 1) rfl rfl (by decide) rfl (fun ls hl => ?_)
      exact Ks21_28  (x1 + (1 : Int32)) ls (lv_sub hl [1, 0, 2] rfl) hV hR
  have Ks21_27 : ∀  (x1 : Int32) (ls : Array Slot), lv_has ls 3 [(0, .ref q6), (1, .int x1), (2, .int (27 : Int32))] → vc_X6_canDoMany_s21_27  m_o m_f m_r g_R g_C m_rl m_lf m_ov x1 → cf_X6_canDoMany_s21_27  m_o m_f m_r g_R g_C m_rl m_lf m_ov x1 = R → W p l e (headSpec wsX6_canDoMany ({ frames := 2, cells := 0, slots := 0, locals := 45 })).room s m ([.ref q6] : List Value).toArray below meth c s.heap [] 0 0 (MQ below (rd_Q (some (.int R))) ([.ref q6] : List Value).toArray s 0 0 (fun _ => False)) (F0 m 21 ls []) := by
    intro  x1 ls hl hV hR
    unfold cf_X6_canDoMany_s21_27 at hR
    unfold vc_X6_canDoMany_s21_27 at hV
    refine lv_iinc (v := (28 : Int32)) (lv' := [(2, .int (28 : Int32)), (0, .ref q6), (1, .int x1)]) hx hb dX6_canDoMany_21 hl (k := 2) rfl (by decide +kernel) (by decide) rfl (fun ls hl => ?_)
    refine lv_goto (tgt := 4) hx hb dX6_canDoMany_24 (by decide) ?_
    exact Ks4_28  x1 ls (lv_sub hl [1, 2, 0] rfl) hV hR
  have Ks4_27 : ∀  (x1 : Int32) (ls : Array Slot), lv_has ls 3 [(0, .ref q6), (1, .int x1), (2, .int (27 : Int32))] → vc_X6_canDoMany_s4_27  m_o m_f m_r g_R g_C m_rl m_lf m_ov x1 → cf_X6_canDoMany_s4_27  m_o m_f m_r g_R g_C m_rl m_lf m_ov x1 = R → W p l e (headSpec wsX6_canDoMany ({ frames := 2, cells := 0, slots := 0, locals := 45 })).room s m ([.ref q6] : List Value).toArray below meth c s.heap [] 0 0 (MQ below (rd_Q (some (.int R))) ([.ref q6] : List Value).toArray s 0 0 (fun _ => False)) (F0 m 4 ls []) := by
    intro  x1 ls hl hV hR
    unfold cf_X6_canDoMany_s4_27 at hR
    unfold vc_X6_canDoMany_s4_27 at hV
    refine lv_iload_n hx hb dX6_canDoMany_4 rfl (lv_at hl 2 rfl) ?_
    refine lv_bipush (v := (50 : Int32)) hx hb dX6_canDoMany_5 (by decide +kernel) ?_
    refine lv_icmp_ge (tgt := 27) hx hb dX6_canDoMany_7 (by decide) (fun c_0 => absurd c_0 (by decide +kernel)) (fun _ => ?_)
    refine lv_aload_n hx hb dX6_canDoMany_10 rfl (lv_at hl 0 rfl) ?_
    refine lv_iload_n hx hb dX6_canDoMany_11 rfl (lv_at hl 2 rfl) ?_
    obtain ⟨hv55, hV⟩ := hV
    refine rd_calli (va_runV (As := [.int (27 : Int32)]) (rest := []) ⟨hx, hb, hml, hown, hts⟩ (c_X6_canDo l dC dI q6 qA qB qF qR qC qL qS qO qY qH qW qM cyI cyJ cyZ m_th m_o m_f m_r m_b m_a u_F u_R g_F g_R g_C g_L m_rl m_lf m_ov m_pl g_S g_O g_Y g_H m_st g_W m_rm m_fs g_M (27 : Int32) hm_o hv55) (cwV 1 hts gX6_canDoMany_X6_canDo rfl rfl rfl (by decide +kernel) ⟨Nat.le_of_ble_eq_true rfl, Nat.le_of_ble_eq_true rfl⟩) ⟨rd_blind, va_recv hK hP (ci := 4) (q0 := 0) rfl rfl, fun U hU hW => ⟨rfl, by rw [hU]; exact hP, va_K.moved hW.alike (hK.sub [0, 1, 2] rfl)⟩⟩ rfl rfl hl.1 rfl (lv_room (Nat.le_of_ble_eq_true rfl)) dX6_canDoMany_12 ⟨Nat.le_refl _, Nat.le_refl _⟩) ?_
    refine lv_if_eq (tgt := 21) hx hb dX6_canDoMany_15 (by decide) (fun c_56 => ?_) (fun c_56 => ?_)
    · rw [if_pos c_56] at hR
      have hV := hV.1 c_56
      exact Ks21_27  x1 ls (lv_sub hl [0, 1, 2] rfl) hV hR
    · rw [if_neg c_56] at hR
      have hV := hV.2 c_56
      refine lv_iinc (v := (x1 + (1 : Int32))) (lv' := [(1, .int (x1 + (1 : Int32))), (0, .ref q6), (2, .int (27 : Int32))]) hx hb dX6_canDoMany_18 hl (k := 1) rfl rfl (by decide) rfl (fun ls hl => ?_)
      exact Ks21_27  (x1 + (1 : Int32)) ls (lv_sub hl [1, 0, 2] rfl) hV hR
  have Ks21_26 : ∀  (x1 : Int32) (ls : Array Slot), lv_has ls 3 [(0, .ref q6), (1, .int x1), (2, .int (26 : Int32))] → vc_X6_canDoMany_s21_26  m_o m_f m_r g_R g_C m_rl m_lf m_ov x1 → cf_X6_canDoMany_s21_26  m_o m_f m_r g_R g_C m_rl m_lf m_ov x1 = R → W p l e (headSpec wsX6_canDoMany ({ frames := 2, cells := 0, slots := 0, locals := 45 })).room s m ([.ref q6] : List Value).toArray below meth c s.heap [] 0 0 (MQ below (rd_Q (some (.int R))) ([.ref q6] : List Value).toArray s 0 0 (fun _ => False)) (F0 m 21 ls []) := by
    intro  x1 ls hl hV hR
    unfold cf_X6_canDoMany_s21_26 at hR
    unfold vc_X6_canDoMany_s21_26 at hV
    refine lv_iinc (v := (27 : Int32)) (lv' := [(2, .int (27 : Int32)), (0, .ref q6), (1, .int x1)]) hx hb dX6_canDoMany_21 hl (k := 2) rfl (by decide +kernel) (by decide) rfl (fun ls hl => ?_)
    refine lv_goto (tgt := 4) hx hb dX6_canDoMany_24 (by decide) ?_
    exact Ks4_27  x1 ls (lv_sub hl [1, 2, 0] rfl) hV hR
  have Ks4_26 : ∀  (x1 : Int32) (ls : Array Slot), lv_has ls 3 [(0, .ref q6), (1, .int x1), (2, .int (26 : Int32))] → vc_X6_canDoMany_s4_26  m_o m_f m_r g_R g_C m_rl m_lf m_ov x1 → cf_X6_canDoMany_s4_26  m_o m_f m_r g_R g_C m_rl m_lf m_ov x1 = R → W p l e (headSpec wsX6_canDoMany ({ frames := 2, cells := 0, slots := 0, locals := 45 })).room s m ([.ref q6] : List Value).toArray below meth c s.heap [] 0 0 (MQ below (rd_Q (some (.int R))) ([.ref q6] : List Value).toArray s 0 0 (fun _ => False)) (F0 m 4 ls []) := by
    intro  x1 ls hl hV hR
    unfold cf_X6_canDoMany_s4_26 at hR
    unfold vc_X6_canDoMany_s4_26 at hV
    refine lv_iload_n hx hb dX6_canDoMany_4 rfl (lv_at hl 2 rfl) ?_
    refine lv_bipush (v := (50 : Int32)) hx hb dX6_canDoMany_5 (by decide +kernel) ?_
    refine lv_icmp_ge (tgt := 27) hx hb dX6_canDoMany_7 (by decide) (fun c_0 => absurd c_0 (by decide +kernel)) (fun _ => ?_)
    refine lv_aload_n hx hb dX6_canDoMany_10 rfl (lv_at hl 0 rfl) ?_
    refine lv_iload_n hx hb dX6_canDoMany_11 rfl (lv_at hl 2 rfl) ?_
    obtain ⟨hv53, hV⟩ := hV
    refine rd_calli (va_runV (As := [.int (26 : Int32)]) (rest := []) ⟨hx, hb, hml, hown, hts⟩ (c_X6_canDo l dC dI q6 qA qB qF qR qC qL qS qO qY qH qW qM cyI cyJ cyZ m_th m_o m_f m_r m_b m_a u_F u_R g_F g_R g_C g_L m_rl m_lf m_ov m_pl g_S g_O g_Y g_H m_st g_W m_rm m_fs g_M (26 : Int32) hm_o hv53) (cwV 1 hts gX6_canDoMany_X6_canDo rfl rfl rfl (by decide +kernel) ⟨Nat.le_of_ble_eq_true rfl, Nat.le_of_ble_eq_true rfl⟩) ⟨rd_blind, va_recv hK hP (ci := 4) (q0 := 0) rfl rfl, fun U hU hW => ⟨rfl, by rw [hU]; exact hP, va_K.moved hW.alike (hK.sub [0, 1, 2] rfl)⟩⟩ rfl rfl hl.1 rfl (lv_room (Nat.le_of_ble_eq_true rfl)) dX6_canDoMany_12 ⟨Nat.le_refl _, Nat.le_refl _⟩) ?_
    refine lv_if_eq (tgt := 21) hx hb dX6_canDoMany_15 (by decide) (fun c_54 => ?_) (fun c_54 => ?_)
    · rw [if_pos c_54] at hR
      have hV := hV.1 c_54
      exact Ks21_26  x1 ls (lv_sub hl [0, 1, 2] rfl) hV hR
    · rw [if_neg c_54] at hR
      have hV := hV.2 c_54
      refine lv_iinc (v := (x1 + (1 : Int32))) (lv' := [(1, .int (x1 + (1 : Int32))), (0, .ref q6), (2, .int (26 : Int32))]) hx hb dX6_canDoMany_18 hl (k := 1) rfl rfl (by decide) rfl (fun ls hl => ?_)
      exact Ks21_26  (x1 + (1 : Int32)) ls (lv_sub hl [1, 0, 2] rfl) hV hR
  have Ks21_25 : ∀  (x1 : Int32) (ls : Array Slot), lv_has ls 3 [(0, .ref q6), (1, .int x1), (2, .int (25 : Int32))] → vc_X6_canDoMany_s21_25  m_o m_f m_r g_R g_C m_rl m_lf m_ov x1 → cf_X6_canDoMany_s21_25  m_o m_f m_r g_R g_C m_rl m_lf m_ov x1 = R → W p l e (headSpec wsX6_canDoMany ({ frames := 2, cells := 0, slots := 0, locals := 45 })).room s m ([.ref q6] : List Value).toArray below meth c s.heap [] 0 0 (MQ below (rd_Q (some (.int R))) ([.ref q6] : List Value).toArray s 0 0 (fun _ => False)) (F0 m 21 ls []) := by
    intro  x1 ls hl hV hR
    unfold cf_X6_canDoMany_s21_25 at hR
    unfold vc_X6_canDoMany_s21_25 at hV
    refine lv_iinc (v := (26 : Int32)) (lv' := [(2, .int (26 : Int32)), (0, .ref q6), (1, .int x1)]) hx hb dX6_canDoMany_21 hl (k := 2) rfl (by decide +kernel) (by decide) rfl (fun ls hl => ?_)
    refine lv_goto (tgt := 4) hx hb dX6_canDoMany_24 (by decide) ?_
    exact Ks4_26  x1 ls (lv_sub hl [1, 2, 0] rfl) hV hR
  have Ks4_25 : ∀  (x1 : Int32) (ls : Array Slot), lv_has ls 3 [(0, .ref q6), (1, .int x1), (2, .int (25 : Int32))] → vc_X6_canDoMany_s4_25  m_o m_f m_r g_R g_C m_rl m_lf m_ov x1 → cf_X6_canDoMany_s4_25  m_o m_f m_r g_R g_C m_rl m_lf m_ov x1 = R → W p l e (headSpec wsX6_canDoMany ({ frames := 2, cells := 0, slots := 0, locals := 45 })).room s m ([.ref q6] : List Value).toArray below meth c s.heap [] 0 0 (MQ below (rd_Q (some (.int R))) ([.ref q6] : List Value).toArray s 0 0 (fun _ => False)) (F0 m 4 ls []) := by
    intro  x1 ls hl hV hR
    unfold cf_X6_canDoMany_s4_25 at hR
    unfold vc_X6_canDoMany_s4_25 at hV
    refine lv_iload_n hx hb dX6_canDoMany_4 rfl (lv_at hl 2 rfl) ?_
    refine lv_bipush (v := (50 : Int32)) hx hb dX6_canDoMany_5 (by decide +kernel) ?_
    refine lv_icmp_ge (tgt := 27) hx hb dX6_canDoMany_7 (by decide) (fun c_0 => absurd c_0 (by decide +kernel)) (fun _ => ?_)
    refine lv_aload_n hx hb dX6_canDoMany_10 rfl (lv_at hl 0 rfl) ?_
    refine lv_iload_n hx hb dX6_canDoMany_11 rfl (lv_at hl 2 rfl) ?_
    obtain ⟨hv51, hV⟩ := hV
    refine rd_calli (va_runV (As := [.int (25 : Int32)]) (rest := []) ⟨hx, hb, hml, hown, hts⟩ (c_X6_canDo l dC dI q6 qA qB qF qR qC qL qS qO qY qH qW qM cyI cyJ cyZ m_th m_o m_f m_r m_b m_a u_F u_R g_F g_R g_C g_L m_rl m_lf m_ov m_pl g_S g_O g_Y g_H m_st g_W m_rm m_fs g_M (25 : Int32) hm_o hv51) (cwV 1 hts gX6_canDoMany_X6_canDo rfl rfl rfl (by decide +kernel) ⟨Nat.le_of_ble_eq_true rfl, Nat.le_of_ble_eq_true rfl⟩) ⟨rd_blind, va_recv hK hP (ci := 4) (q0 := 0) rfl rfl, fun U hU hW => ⟨rfl, by rw [hU]; exact hP, va_K.moved hW.alike (hK.sub [0, 1, 2] rfl)⟩⟩ rfl rfl hl.1 rfl (lv_room (Nat.le_of_ble_eq_true rfl)) dX6_canDoMany_12 ⟨Nat.le_refl _, Nat.le_refl _⟩) ?_
    refine lv_if_eq (tgt := 21) hx hb dX6_canDoMany_15 (by decide) (fun c_52 => ?_) (fun c_52 => ?_)
    · rw [if_pos c_52] at hR
      have hV := hV.1 c_52
      exact Ks21_25  x1 ls (lv_sub hl [0, 1, 2] rfl) hV hR
    · rw [if_neg c_52] at hR
      have hV := hV.2 c_52
      refine lv_iinc (v := (x1 + (1 : Int32))) (lv' := [(1, .int (x1 + (1 : Int32))), (0, .ref q6), (2, .int (25 : Int32))]) hx hb dX6_canDoMany_18 hl (k := 1) rfl rfl (by decide) rfl (fun ls hl => ?_)
      exact Ks21_25  (x1 + (1 : Int32)) ls (lv_sub hl [1, 0, 2] rfl) hV hR
  have Ks21_24 : ∀  (x1 : Int32) (ls : Array Slot), lv_has ls 3 [(0, .ref q6), (1, .int x1), (2, .int (24 : Int32))] → vc_X6_canDoMany_s21_24  m_o m_f m_r g_R g_C m_rl m_lf m_ov x1 → cf_X6_canDoMany_s21_24  m_o m_f m_r g_R g_C m_rl m_lf m_ov x1 = R → W p l e (headSpec wsX6_canDoMany ({ frames := 2, cells := 0, slots := 0, locals := 45 })).room s m ([.ref q6] : List Value).toArray below meth c s.heap [] 0 0 (MQ below (rd_Q (some (.int R))) ([.ref q6] : List Value).toArray s 0 0 (fun _ => False)) (F0 m 21 ls []) := by
    intro  x1 ls hl hV hR
    unfold cf_X6_canDoMany_s21_24 at hR
    unfold vc_X6_canDoMany_s21_24 at hV
    refine lv_iinc (v := (25 : Int32)) (lv' := [(2, .int (25 : Int32)), (0, .ref q6), (1, .int x1)]) hx hb dX6_canDoMany_21 hl (k := 2) rfl (by decide +kernel) (by decide) rfl (fun ls hl => ?_)
    refine lv_goto (tgt := 4) hx hb dX6_canDoMany_24 (by decide) ?_
    exact Ks4_25  x1 ls (lv_sub hl [1, 2, 0] rfl) hV hR
  have Ks4_24 : ∀  (x1 : Int32) (ls : Array Slot), lv_has ls 3 [(0, .ref q6), (1, .int x1), (2, .int (24 : Int32))] → vc_X6_canDoMany_s4_24  m_o m_f m_r g_R g_C m_rl m_lf m_ov x1 → cf_X6_canDoMany_s4_24  m_o m_f m_r g_R g_C m_rl m_lf m_ov x1 = R → W p l e (headSpec wsX6_canDoMany ({ frames := 2, cells := 0, slots := 0, locals := 45 })).room s m ([.ref q6] : List Value).toArray below meth c s.heap [] 0 0 (MQ below (rd_Q (some (.int R))) ([.ref q6] : List Value).toArray s 0 0 (fun _ => False)) (F0 m 4 ls []) := by
    intro  x1 ls hl hV hR
    unfold cf_X6_canDoMany_s4_24 at hR
    unfold vc_X6_canDoMany_s4_24 at hV
    refine lv_iload_n hx hb dX6_canDoMany_4 rfl (lv_at hl 2 rfl) ?_
    refine lv_bipush (v := (50 : Int32)) hx hb dX6_canDoMany_5 (by decide +kernel) ?_
    refine lv_icmp_ge (tgt := 27) hx hb dX6_canDoMany_7 (by decide) (fun c_0 => absurd c_0 (by decide +kernel)) (fun _ => ?_)
    refine lv_aload_n hx hb dX6_canDoMany_10 rfl (lv_at hl 0 rfl) ?_
    refine lv_iload_n hx hb dX6_canDoMany_11 rfl (lv_at hl 2 rfl) ?_
    obtain ⟨hv49, hV⟩ := hV
    refine rd_calli (va_runV (As := [.int (24 : Int32)]) (rest := []) ⟨hx, hb, hml, hown, hts⟩ (c_X6_canDo l dC dI q6 qA qB qF qR qC qL qS qO qY qH qW qM cyI cyJ cyZ m_th m_o m_f m_r m_b m_a u_F u_R g_F g_R g_C g_L m_rl m_lf m_ov m_pl g_S g_O g_Y g_H m_st g_W m_rm m_fs g_M (24 : Int32) hm_o hv49) (cwV 1 hts gX6_canDoMany_X6_canDo rfl rfl rfl (by decide +kernel) ⟨Nat.le_of_ble_eq_true rfl, Nat.le_of_ble_eq_true rfl⟩) ⟨rd_blind, va_recv hK hP (ci := 4) (q0 := 0) rfl rfl, fun U hU hW => ⟨rfl, by rw [hU]; exact hP, va_K.moved hW.alike (hK.sub [0, 1, 2] rfl)⟩⟩ rfl rfl hl.1 rfl (lv_room (Nat.le_of_ble_eq_true rfl)) dX6_canDoMany_12 ⟨Nat.le_refl _, Nat.le_refl _⟩) ?_
    refine lv_if_eq (tgt := 21) hx hb dX6_canDoMany_15 (by decide) (fun c_50 => ?_) (fun c_50 => ?_)
    · rw [if_pos c_50] at hR
      have hV := hV.1 c_50
      exact Ks21_24  x1 ls (lv_sub hl [0, 1, 2] rfl) hV hR
    · rw [if_neg c_50] at hR
      have hV := hV.2 c_50
      refine lv_iinc (v := (x1 + (1 : Int32))) (lv' := [(1, .int (x1 + (1 : Int32))), (0, .ref q6), (2, .int (24 : Int32))]) hx hb dX6_canDoMany_18 hl (k := 1) rfl rfl (by decide) rfl (fun ls hl => ?_)
      exact Ks21_24  (x1 + (1 : Int32)) ls (lv_sub hl [1, 0, 2] rfl) hV hR
  have Ks21_23 : ∀  (x1 : Int32) (ls : Array Slot), lv_has ls 3 [(0, .ref q6), (1, .int x1), (2, .int (23 : Int32))] → vc_X6_canDoMany_s21_23  m_o m_f m_r g_R g_C m_rl m_lf m_ov x1 → cf_X6_canDoMany_s21_23  m_o m_f m_r g_R g_C m_rl m_lf m_ov x1 = R → W p l e (headSpec wsX6_canDoMany ({ frames := 2, cells := 0, slots := 0, locals := 45 })).room s m ([.ref q6] : List Value).toArray below meth c s.heap [] 0 0 (MQ below (rd_Q (some (.int R))) ([.ref q6] : List Value).toArray s 0 0 (fun _ => False)) (F0 m 21 ls []) := by
    intro  x1 ls hl hV hR
    unfold cf_X6_canDoMany_s21_23 at hR
    unfold vc_X6_canDoMany_s21_23 at hV
    refine lv_iinc (v := (24 : Int32)) (lv' := [(2, .int (24 : Int32)), (0, .ref q6), (1, .int x1)]) hx hb dX6_canDoMany_21 hl (k := 2) rfl (by decide +kernel) (by decide) rfl (fun ls hl => ?_)
    refine lv_goto (tgt := 4) hx hb dX6_canDoMany_24 (by decide) ?_
    exact Ks4_24  x1 ls (lv_sub hl [1, 2, 0] rfl) hV hR
  have Ks4_23 : ∀  (x1 : Int32) (ls : Array Slot), lv_has ls 3 [(0, .ref q6), (1, .int x1), (2, .int (23 : Int32))] → vc_X6_canDoMany_s4_23  m_o m_f m_r g_R g_C m_rl m_lf m_ov x1 → cf_X6_canDoMany_s4_23  m_o m_f m_r g_R g_C m_rl m_lf m_ov x1 = R → W p l e (headSpec wsX6_canDoMany ({ frames := 2, cells := 0, slots := 0, locals := 45 })).room s m ([.ref q6] : List Value).toArray below meth c s.heap [] 0 0 (MQ below (rd_Q (some (.int R))) ([.ref q6] : List Value).toArray s 0 0 (fun _ => False)) (F0 m 4 ls []) := by
    intro  x1 ls hl hV hR
    unfold cf_X6_canDoMany_s4_23 at hR
    unfold vc_X6_canDoMany_s4_23 at hV
    refine lv_iload_n hx hb dX6_canDoMany_4 rfl (lv_at hl 2 rfl) ?_
    refine lv_bipush (v := (50 : Int32)) hx hb dX6_canDoMany_5 (by decide +kernel) ?_
    refine lv_icmp_ge (tgt := 27) hx hb dX6_canDoMany_7 (by decide) (fun c_0 => absurd c_0 (by decide +kernel)) (fun _ => ?_)
    refine lv_aload_n hx hb dX6_canDoMany_10 rfl (lv_at hl 0 rfl) ?_
    refine lv_iload_n hx hb dX6_canDoMany_11 rfl (lv_at hl 2 rfl) ?_
    obtain ⟨hv47, hV⟩ := hV
    refine rd_calli (va_runV (As := [.int (23 : Int32)]) (rest := []) ⟨hx, hb, hml, hown, hts⟩ (c_X6_canDo l dC dI q6 qA qB qF qR qC qL qS qO qY qH qW qM cyI cyJ cyZ m_th m_o m_f m_r m_b m_a u_F u_R g_F g_R g_C g_L m_rl m_lf m_ov m_pl g_S g_O g_Y g_H m_st g_W m_rm m_fs g_M (23 : Int32) hm_o hv47) (cwV 1 hts gX6_canDoMany_X6_canDo rfl rfl rfl (by decide +kernel) ⟨Nat.le_of_ble_eq_true rfl, Nat.le_of_ble_eq_true rfl⟩) ⟨rd_blind, va_recv hK hP (ci := 4) (q0 := 0) rfl rfl, fun U hU hW => ⟨rfl, by rw [hU]; exact hP, va_K.moved hW.alike (hK.sub [0, 1, 2] rfl)⟩⟩ rfl rfl hl.1 rfl (lv_room (Nat.le_of_ble_eq_true rfl)) dX6_canDoMany_12 ⟨Nat.le_refl _, Nat.le_refl _⟩) ?_
    refine lv_if_eq (tgt := 21) hx hb dX6_canDoMany_15 (by decide) (fun c_48 => ?_) (fun c_48 => ?_)
    · rw [if_pos c_48] at hR
      have hV := hV.1 c_48
      exact Ks21_23  x1 ls (lv_sub hl [0, 1, 2] rfl) hV hR
    · rw [if_neg c_48] at hR
      have hV := hV.2 c_48
      refine lv_iinc (v := (x1 + (1 : Int32))) (lv' := [(1, .int (x1 + (1 : Int32))), (0, .ref q6), (2, .int (23 : Int32))]) hx hb dX6_canDoMany_18 hl (k := 1) rfl rfl (by decide) rfl (fun ls hl => ?_)
      exact Ks21_23  (x1 + (1 : Int32)) ls (lv_sub hl [1, 0, 2] rfl) hV hR
  have Ks21_22 : ∀  (x1 : Int32) (ls : Array Slot), lv_has ls 3 [(0, .ref q6), (1, .int x1), (2, .int (22 : Int32))] → vc_X6_canDoMany_s21_22  m_o m_f m_r g_R g_C m_rl m_lf m_ov x1 → cf_X6_canDoMany_s21_22  m_o m_f m_r g_R g_C m_rl m_lf m_ov x1 = R → W p l e (headSpec wsX6_canDoMany ({ frames := 2, cells := 0, slots := 0, locals := 45 })).room s m ([.ref q6] : List Value).toArray below meth c s.heap [] 0 0 (MQ below (rd_Q (some (.int R))) ([.ref q6] : List Value).toArray s 0 0 (fun _ => False)) (F0 m 21 ls []) := by
    intro  x1 ls hl hV hR
    unfold cf_X6_canDoMany_s21_22 at hR
    unfold vc_X6_canDoMany_s21_22 at hV
    refine lv_iinc (v := (23 : Int32)) (lv' := [(2, .int (23 : Int32)), (0, .ref q6), (1, .int x1)]) hx hb dX6_canDoMany_21 hl (k := 2) rfl (by decide +kernel) (by decide) rfl (fun ls hl => ?_)
    refine lv_goto (tgt := 4) hx hb dX6_canDoMany_24 (by decide) ?_
    exact Ks4_23  x1 ls (lv_sub hl [1, 2, 0] rfl) hV hR
  have Ks4_22 : ∀  (x1 : Int32) (ls : Array Slot), lv_has ls 3 [(0, .ref q6), (1, .int x1), (2, .int (22 : Int32))] → vc_X6_canDoMany_s4_22  m_o m_f m_r g_R g_C m_rl m_lf m_ov x1 → cf_X6_canDoMany_s4_22  m_o m_f m_r g_R g_C m_rl m_lf m_ov x1 = R → W p l e (headSpec wsX6_canDoMany ({ frames := 2, cells := 0, slots := 0, locals := 45 })).room s m ([.ref q6] : List Value).toArray below meth c s.heap [] 0 0 (MQ below (rd_Q (some (.int R))) ([.ref q6] : List Value).toArray s 0 0 (fun _ => False)) (F0 m 4 ls []) := by
    intro  x1 ls hl hV hR
    unfold cf_X6_canDoMany_s4_22 at hR
    unfold vc_X6_canDoMany_s4_22 at hV
    refine lv_iload_n hx hb dX6_canDoMany_4 rfl (lv_at hl 2 rfl) ?_
    refine lv_bipush (v := (50 : Int32)) hx hb dX6_canDoMany_5 (by decide +kernel) ?_
    refine lv_icmp_ge (tgt := 27) hx hb dX6_canDoMany_7 (by decide) (fun c_0 => absurd c_0 (by decide +kernel)) (fun _ => ?_)
    refine lv_aload_n hx hb dX6_canDoMany_10 rfl (lv_at hl 0 rfl) ?_
    refine lv_iload_n hx hb dX6_canDoMany_11 rfl (lv_at hl 2 rfl) ?_
    obtain ⟨hv45, hV⟩ := hV
    refine rd_calli (va_runV (As := [.int (22 : Int32)]) (rest := []) ⟨hx, hb, hml, hown, hts⟩ (c_X6_canDo l dC dI q6 qA qB qF qR qC qL qS qO qY qH qW qM cyI cyJ cyZ m_th m_o m_f m_r m_b m_a u_F u_R g_F g_R g_C g_L m_rl m_lf m_ov m_pl g_S g_O g_Y g_H m_st g_W m_rm m_fs g_M (22 : Int32) hm_o hv45) (cwV 1 hts gX6_canDoMany_X6_canDo rfl rfl rfl (by decide +kernel) ⟨Nat.le_of_ble_eq_true rfl, Nat.le_of_ble_eq_true rfl⟩) ⟨rd_blind, va_recv hK hP (ci := 4) (q0 := 0) rfl rfl, fun U hU hW => ⟨rfl, by rw [hU]; exact hP, va_K.moved hW.alike (hK.sub [0, 1, 2] rfl)⟩⟩ rfl rfl hl.1 rfl (lv_room (Nat.le_of_ble_eq_true rfl)) dX6_canDoMany_12 ⟨Nat.le_refl _, Nat.le_refl _⟩) ?_
    refine lv_if_eq (tgt := 21) hx hb dX6_canDoMany_15 (by decide) (fun c_46 => ?_) (fun c_46 => ?_)
    · rw [if_pos c_46] at hR
      have hV := hV.1 c_46
      exact Ks21_22  x1 ls (lv_sub hl [0, 1, 2] rfl) hV hR
    · rw [if_neg c_46] at hR
      have hV := hV.2 c_46
      refine lv_iinc (v := (x1 + (1 : Int32))) (lv' := [(1, .int (x1 + (1 : Int32))), (0, .ref q6), (2, .int (22 : Int32))]) hx hb dX6_canDoMany_18 hl (k := 1) rfl rfl (by decide) rfl (fun ls hl => ?_)
      exact Ks21_22  (x1 + (1 : Int32)) ls (lv_sub hl [1, 0, 2] rfl) hV hR
  have Ks21_21 : ∀  (x1 : Int32) (ls : Array Slot), lv_has ls 3 [(0, .ref q6), (1, .int x1), (2, .int (21 : Int32))] → vc_X6_canDoMany_s21_21  m_o m_f m_r g_R g_C m_rl m_lf m_ov x1 → cf_X6_canDoMany_s21_21  m_o m_f m_r g_R g_C m_rl m_lf m_ov x1 = R → W p l e (headSpec wsX6_canDoMany ({ frames := 2, cells := 0, slots := 0, locals := 45 })).room s m ([.ref q6] : List Value).toArray below meth c s.heap [] 0 0 (MQ below (rd_Q (some (.int R))) ([.ref q6] : List Value).toArray s 0 0 (fun _ => False)) (F0 m 21 ls []) := by
    intro  x1 ls hl hV hR
    unfold cf_X6_canDoMany_s21_21 at hR
    unfold vc_X6_canDoMany_s21_21 at hV
    refine lv_iinc (v := (22 : Int32)) (lv' := [(2, .int (22 : Int32)), (0, .ref q6), (1, .int x1)]) hx hb dX6_canDoMany_21 hl (k := 2) rfl (by decide +kernel) (by decide) rfl (fun ls hl => ?_)
    refine lv_goto (tgt := 4) hx hb dX6_canDoMany_24 (by decide) ?_
    exact Ks4_22  x1 ls (lv_sub hl [1, 2, 0] rfl) hV hR
  have Ks4_21 : ∀  (x1 : Int32) (ls : Array Slot), lv_has ls 3 [(0, .ref q6), (1, .int x1), (2, .int (21 : Int32))] → vc_X6_canDoMany_s4_21  m_o m_f m_r g_R g_C m_rl m_lf m_ov x1 → cf_X6_canDoMany_s4_21  m_o m_f m_r g_R g_C m_rl m_lf m_ov x1 = R → W p l e (headSpec wsX6_canDoMany ({ frames := 2, cells := 0, slots := 0, locals := 45 })).room s m ([.ref q6] : List Value).toArray below meth c s.heap [] 0 0 (MQ below (rd_Q (some (.int R))) ([.ref q6] : List Value).toArray s 0 0 (fun _ => False)) (F0 m 4 ls []) := by
    intro  x1 ls hl hV hR
    unfold cf_X6_canDoMany_s4_21 at hR
    unfold vc_X6_canDoMany_s4_21 at hV
    refine lv_iload_n hx hb dX6_canDoMany_4 rfl (lv_at hl 2 rfl) ?_
    refine lv_bipush (v := (50 : Int32)) hx hb dX6_canDoMany_5 (by decide +kernel) ?_
    refine lv_icmp_ge (tgt := 27) hx hb dX6_canDoMany_7 (by decide) (fun c_0 => absurd c_0 (by decide +kernel)) (fun _ => ?_)
    refine lv_aload_n hx hb dX6_canDoMany_10 rfl (lv_at hl 0 rfl) ?_
    refine lv_iload_n hx hb dX6_canDoMany_11 rfl (lv_at hl 2 rfl) ?_
    obtain ⟨hv43, hV⟩ := hV
    refine rd_calli (va_runV (As := [.int (21 : Int32)]) (rest := []) ⟨hx, hb, hml, hown, hts⟩ (c_X6_canDo l dC dI q6 qA qB qF qR qC qL qS qO qY qH qW qM cyI cyJ cyZ m_th m_o m_f m_r m_b m_a u_F u_R g_F g_R g_C g_L m_rl m_lf m_ov m_pl g_S g_O g_Y g_H m_st g_W m_rm m_fs g_M (21 : Int32) hm_o hv43) (cwV 1 hts gX6_canDoMany_X6_canDo rfl rfl rfl (by decide +kernel) ⟨Nat.le_of_ble_eq_true rfl, Nat.le_of_ble_eq_true rfl⟩) ⟨rd_blind, va_recv hK hP (ci := 4) (q0 := 0) rfl rfl, fun U hU hW => ⟨rfl, by rw [hU]; exact hP, va_K.moved hW.alike (hK.sub [0, 1, 2] rfl)⟩⟩ rfl rfl hl.1 rfl (lv_room (Nat.le_of_ble_eq_true rfl)) dX6_canDoMany_12 ⟨Nat.le_refl _, Nat.le_refl _⟩) ?_
    refine lv_if_eq (tgt := 21) hx hb dX6_canDoMany_15 (by decide) (fun c_44 => ?_) (fun c_44 => ?_)
    · rw [if_pos c_44] at hR
      have hV := hV.1 c_44
      exact Ks21_21  x1 ls (lv_sub hl [0, 1, 2] rfl) hV hR
    · rw [if_neg c_44] at hR
      have hV := hV.2 c_44
      refine lv_iinc (v := (x1 + (1 : Int32))) (lv' := [(1, .int (x1 + (1 : Int32))), (0, .ref q6), (2, .int (21 : Int32))]) hx hb dX6_canDoMany_18 hl (k := 1) rfl rfl (by decide) rfl (fun ls hl => ?_)
      exact Ks21_21  (x1 + (1 : Int32)) ls (lv_sub hl [1, 0, 2] rfl) hV hR
  have Ks21_20 : ∀  (x1 : Int32) (ls : Array Slot), lv_has ls 3 [(0, .ref q6), (1, .int x1), (2, .int (20 : Int32))] → vc_X6_canDoMany_s21_20  m_o m_f m_r g_R g_C m_rl m_lf m_ov x1 → cf_X6_canDoMany_s21_20  m_o m_f m_r g_R g_C m_rl m_lf m_ov x1 = R → W p l e (headSpec wsX6_canDoMany ({ frames := 2, cells := 0, slots := 0, locals := 45 })).room s m ([.ref q6] : List Value).toArray below meth c s.heap [] 0 0 (MQ below (rd_Q (some (.int R))) ([.ref q6] : List Value).toArray s 0 0 (fun _ => False)) (F0 m 21 ls []) := by
    intro  x1 ls hl hV hR
    unfold cf_X6_canDoMany_s21_20 at hR
    unfold vc_X6_canDoMany_s21_20 at hV
    refine lv_iinc (v := (21 : Int32)) (lv' := [(2, .int (21 : Int32)), (0, .ref q6), (1, .int x1)]) hx hb dX6_canDoMany_21 hl (k := 2) rfl (by decide +kernel) (by decide) rfl (fun ls hl => ?_)
    refine lv_goto (tgt := 4) hx hb dX6_canDoMany_24 (by decide) ?_
    exact Ks4_21  x1 ls (lv_sub hl [1, 2, 0] rfl) hV hR
  have Ks4_20 : ∀  (x1 : Int32) (ls : Array Slot), lv_has ls 3 [(0, .ref q6), (1, .int x1), (2, .int (20 : Int32))] → vc_X6_canDoMany_s4_20  m_o m_f m_r g_R g_C m_rl m_lf m_ov x1 → cf_X6_canDoMany_s4_20  m_o m_f m_r g_R g_C m_rl m_lf m_ov x1 = R → W p l e (headSpec wsX6_canDoMany ({ frames := 2, cells := 0, slots := 0, locals := 45 })).room s m ([.ref q6] : List Value).toArray below meth c s.heap [] 0 0 (MQ below (rd_Q (some (.int R))) ([.ref q6] : List Value).toArray s 0 0 (fun _ => False)) (F0 m 4 ls []) := by
    intro  x1 ls hl hV hR
    unfold cf_X6_canDoMany_s4_20 at hR
    unfold vc_X6_canDoMany_s4_20 at hV
    refine lv_iload_n hx hb dX6_canDoMany_4 rfl (lv_at hl 2 rfl) ?_
    refine lv_bipush (v := (50 : Int32)) hx hb dX6_canDoMany_5 (by decide +kernel) ?_
    refine lv_icmp_ge (tgt := 27) hx hb dX6_canDoMany_7 (by decide) (fun c_0 => absurd c_0 (by decide +kernel)) (fun _ => ?_)
    refine lv_aload_n hx hb dX6_canDoMany_10 rfl (lv_at hl 0 rfl) ?_
    refine lv_iload_n hx hb dX6_canDoMany_11 rfl (lv_at hl 2 rfl) ?_
    obtain ⟨hv41, hV⟩ := hV
    refine rd_calli (va_runV (As := [.int (20 : Int32)]) (rest := []) ⟨hx, hb, hml, hown, hts⟩ (c_X6_canDo l dC dI q6 qA qB qF qR qC qL qS qO qY qH qW qM cyI cyJ cyZ m_th m_o m_f m_r m_b m_a u_F u_R g_F g_R g_C g_L m_rl m_lf m_ov m_pl g_S g_O g_Y g_H m_st g_W m_rm m_fs g_M (20 : Int32) hm_o hv41) (cwV 1 hts gX6_canDoMany_X6_canDo rfl rfl rfl (by decide +kernel) ⟨Nat.le_of_ble_eq_true rfl, Nat.le_of_ble_eq_true rfl⟩) ⟨rd_blind, va_recv hK hP (ci := 4) (q0 := 0) rfl rfl, fun U hU hW => ⟨rfl, by rw [hU]; exact hP, va_K.moved hW.alike (hK.sub [0, 1, 2] rfl)⟩⟩ rfl rfl hl.1 rfl (lv_room (Nat.le_of_ble_eq_true rfl)) dX6_canDoMany_12 ⟨Nat.le_refl _, Nat.le_refl _⟩) ?_
    refine lv_if_eq (tgt := 21) hx hb dX6_canDoMany_15 (by decide) (fun c_42 => ?_) (fun c_42 => ?_)
    · rw [if_pos c_42] at hR
      have hV := hV.1 c_42
      exact Ks21_20  x1 ls (lv_sub hl [0, 1, 2] rfl) hV hR
    · rw [if_neg c_42] at hR
      have hV := hV.2 c_42
      refine lv_iinc (v := (x1 + (1 : Int32))) (lv' := [(1, .int (x1 + (1 : Int32))), (0, .ref q6), (2, .int (20 : Int32))]) hx hb dX6_canDoMany_18 hl (k := 1) rfl rfl (by decide) rfl (fun ls hl => ?_)
      exact Ks21_20  (x1 + (1 : Int32)) ls (lv_sub hl [1, 0, 2] rfl) hV hR
  have Ks21_19 : ∀  (x1 : Int32) (ls : Array Slot), lv_has ls 3 [(0, .ref q6), (1, .int x1), (2, .int (19 : Int32))] → vc_X6_canDoMany_s21_19  m_o m_f m_r g_R g_C m_rl m_lf m_ov x1 → cf_X6_canDoMany_s21_19  m_o m_f m_r g_R g_C m_rl m_lf m_ov x1 = R → W p l e (headSpec wsX6_canDoMany ({ frames := 2, cells := 0, slots := 0, locals := 45 })).room s m ([.ref q6] : List Value).toArray below meth c s.heap [] 0 0 (MQ below (rd_Q (some (.int R))) ([.ref q6] : List Value).toArray s 0 0 (fun _ => False)) (F0 m 21 ls []) := by
    intro  x1 ls hl hV hR
    unfold cf_X6_canDoMany_s21_19 at hR
    unfold vc_X6_canDoMany_s21_19 at hV
    refine lv_iinc (v := (20 : Int32)) (lv' := [(2, .int (20 : Int32)), (0, .ref q6), (1, .int x1)]) hx hb dX6_canDoMany_21 hl (k := 2) rfl (by decide +kernel) (by decide) rfl (fun ls hl => ?_)
    refine lv_goto (tgt := 4) hx hb dX6_canDoMany_24 (by decide) ?_
    exact Ks4_20  x1 ls (lv_sub hl [1, 2, 0] rfl) hV hR
  have Ks4_19 : ∀  (x1 : Int32) (ls : Array Slot), lv_has ls 3 [(0, .ref q6), (1, .int x1), (2, .int (19 : Int32))] → vc_X6_canDoMany_s4_19  m_o m_f m_r g_R g_C m_rl m_lf m_ov x1 → cf_X6_canDoMany_s4_19  m_o m_f m_r g_R g_C m_rl m_lf m_ov x1 = R → W p l e (headSpec wsX6_canDoMany ({ frames := 2, cells := 0, slots := 0, locals := 45 })).room s m ([.ref q6] : List Value).toArray below meth c s.heap [] 0 0 (MQ below (rd_Q (some (.int R))) ([.ref q6] : List Value).toArray s 0 0 (fun _ => False)) (F0 m 4 ls []) := by
    intro  x1 ls hl hV hR
    unfold cf_X6_canDoMany_s4_19 at hR
    unfold vc_X6_canDoMany_s4_19 at hV
    refine lv_iload_n hx hb dX6_canDoMany_4 rfl (lv_at hl 2 rfl) ?_
    refine lv_bipush (v := (50 : Int32)) hx hb dX6_canDoMany_5 (by decide +kernel) ?_
    refine lv_icmp_ge (tgt := 27) hx hb dX6_canDoMany_7 (by decide) (fun c_0 => absurd c_0 (by decide +kernel)) (fun _ => ?_)
    refine lv_aload_n hx hb dX6_canDoMany_10 rfl (lv_at hl 0 rfl) ?_
    refine lv_iload_n hx hb dX6_canDoMany_11 rfl (lv_at hl 2 rfl) ?_
    obtain ⟨hv39, hV⟩ := hV
    refine rd_calli (va_runV (As := [.int (19 : Int32)]) (rest := []) ⟨hx, hb, hml, hown, hts⟩ (c_X6_canDo l dC dI q6 qA qB qF qR qC qL qS qO qY qH qW qM cyI cyJ cyZ m_th m_o m_f m_r m_b m_a u_F u_R g_F g_R g_C g_L m_rl m_lf m_ov m_pl g_S g_O g_Y g_H m_st g_W m_rm m_fs g_M (19 : Int32) hm_o hv39) (cwV 1 hts gX6_canDoMany_X6_canDo rfl rfl rfl (by decide +kernel) ⟨Nat.le_of_ble_eq_true rfl, Nat.le_of_ble_eq_true rfl⟩) ⟨rd_blind, va_recv hK hP (ci := 4) (q0 := 0) rfl rfl, fun U hU hW => ⟨rfl, by rw [hU]; exact hP, va_K.moved hW.alike (hK.sub [0, 1, 2] rfl)⟩⟩ rfl rfl hl.1 rfl (lv_room (Nat.le_of_ble_eq_true rfl)) dX6_canDoMany_12 ⟨Nat.le_refl _, Nat.le_refl _⟩) ?_
    refine lv_if_eq (tgt := 21) hx hb dX6_canDoMany_15 (by decide) (fun c_40 => ?_) (fun c_40 => ?_)
    · rw [if_pos c_40] at hR
      have hV := hV.1 c_40
      exact Ks21_19  x1 ls (lv_sub hl [0, 1, 2] rfl) hV hR
    · rw [if_neg c_40] at hR
      have hV := hV.2 c_40
      refine lv_iinc (v := (x1 + (1 : Int32))) (lv' := [(1, .int (x1 + (1 : Int32))), (0, .ref q6), (2, .int (19 : Int32))]) hx hb dX6_canDoMany_18 hl (k := 1) rfl rfl (by decide) rfl (fun ls hl => ?_)
      exact Ks21_19  (x1 + (1 : Int32)) ls (lv_sub hl [1, 0, 2] rfl) hV hR
  have Ks21_18 : ∀  (x1 : Int32) (ls : Array Slot), lv_has ls 3 [(0, .ref q6), (1, .int x1), (2, .int (18 : Int32))] → vc_X6_canDoMany_s21_18  m_o m_f m_r g_R g_C m_rl m_lf m_ov x1 → cf_X6_canDoMany_s21_18  m_o m_f m_r g_R g_C m_rl m_lf m_ov x1 = R → W p l e (headSpec wsX6_canDoMany ({ frames := 2, cells := 0, slots := 0, locals := 45 })).room s m ([.ref q6] : List Value).toArray below meth c s.heap [] 0 0 (MQ below (rd_Q (some (.int R))) ([.ref q6] : List Value).toArray s 0 0 (fun _ => False)) (F0 m 21 ls []) := by
    intro  x1 ls hl hV hR
    unfold cf_X6_canDoMany_s21_18 at hR
    unfold vc_X6_canDoMany_s21_18 at hV
    refine lv_iinc (v := (19 : Int32)) (lv' := [(2, .int (19 : Int32)), (0, .ref q6), (1, .int x1)]) hx hb dX6_canDoMany_21 hl (k := 2) rfl (by decide +kernel) (by decide) rfl (fun ls hl => ?_)
    refine lv_goto (tgt := 4) hx hb dX6_canDoMany_24 (by decide) ?_
    exact Ks4_19  x1 ls (lv_sub hl [1, 2, 0] rfl) hV hR
  have Ks4_18 : ∀  (x1 : Int32) (ls : Array Slot), lv_has ls 3 [(0, .ref q6), (1, .int x1), (2, .int (18 : Int32))] → vc_X6_canDoMany_s4_18  m_o m_f m_r g_R g_C m_rl m_lf m_ov x1 → cf_X6_canDoMany_s4_18  m_o m_f m_r g_R g_C m_rl m_lf m_ov x1 = R → W p l e (headSpec wsX6_canDoMany ({ frames := 2, cells := 0, slots := 0, locals := 45 })).room s m ([.ref q6] : List Value).toArray below meth c s.heap [] 0 0 (MQ below (rd_Q (some (.int R))) ([.ref q6] : List Value).toArray s 0 0 (fun _ => False)) (F0 m 4 ls []) := by
    intro  x1 ls hl hV hR
    unfold cf_X6_canDoMany_s4_18 at hR
    unfold vc_X6_canDoMany_s4_18 at hV
    refine lv_iload_n hx hb dX6_canDoMany_4 rfl (lv_at hl 2 rfl) ?_
    refine lv_bipush (v := (50 : Int32)) hx hb dX6_canDoMany_5 (by decide +kernel) ?_
    refine lv_icmp_ge (tgt := 27) hx hb dX6_canDoMany_7 (by decide) (fun c_0 => absurd c_0 (by decide +kernel)) (fun _ => ?_)
    refine lv_aload_n hx hb dX6_canDoMany_10 rfl (lv_at hl 0 rfl) ?_
    refine lv_iload_n hx hb dX6_canDoMany_11 rfl (lv_at hl 2 rfl) ?_
    obtain ⟨hv37, hV⟩ := hV
    refine rd_calli (va_runV (As := [.int (18 : Int32)]) (rest := []) ⟨hx, hb, hml, hown, hts⟩ (c_X6_canDo l dC dI q6 qA qB qF qR qC qL qS qO qY qH qW qM cyI cyJ cyZ m_th m_o m_f m_r m_b m_a u_F u_R g_F g_R g_C g_L m_rl m_lf m_ov m_pl g_S g_O g_Y g_H m_st g_W m_rm m_fs g_M (18 : Int32) hm_o hv37) (cwV 1 hts gX6_canDoMany_X6_canDo rfl rfl rfl (by decide +kernel) ⟨Nat.le_of_ble_eq_true rfl, Nat.le_of_ble_eq_true rfl⟩) ⟨rd_blind, va_recv hK hP (ci := 4) (q0 := 0) rfl rfl, fun U hU hW => ⟨rfl, by rw [hU]; exact hP, va_K.moved hW.alike (hK.sub [0, 1, 2] rfl)⟩⟩ rfl rfl hl.1 rfl (lv_room (Nat.le_of_ble_eq_true rfl)) dX6_canDoMany_12 ⟨Nat.le_refl _, Nat.le_refl _⟩) ?_
    refine lv_if_eq (tgt := 21) hx hb dX6_canDoMany_15 (by decide) (fun c_38 => ?_) (fun c_38 => ?_)
    · rw [if_pos c_38] at hR
      have hV := hV.1 c_38
      exact Ks21_18  x1 ls (lv_sub hl [0, 1, 2] rfl) hV hR
    · rw [if_neg c_38] at hR
      have hV := hV.2 c_38
      refine lv_iinc (v := (x1 + (1 : Int32))) (lv' := [(1, .int (x1 + (1 : Int32))), (0, .ref q6), (2, .int (18 : Int32))]) hx hb dX6_canDoMany_18 hl (k := 1) rfl rfl (by decide) rfl (fun ls hl => ?_)
      exact Ks21_18  (x1 + (1 : Int32)) ls (lv_sub hl [1, 0, 2] rfl) hV hR
  have Ks21_17 : ∀  (x1 : Int32) (ls : Array Slot), lv_has ls 3 [(0, .ref q6), (1, .int x1), (2, .int (17 : Int32))] → vc_X6_canDoMany_s21_17  m_o m_f m_r g_R g_C m_rl m_lf m_ov x1 → cf_X6_canDoMany_s21_17  m_o m_f m_r g_R g_C m_rl m_lf m_ov x1 = R → W p l e (headSpec wsX6_canDoMany ({ frames := 2, cells := 0, slots := 0, locals := 45 })).room s m ([.ref q6] : List Value).toArray below meth c s.heap [] 0 0 (MQ below (rd_Q (some (.int R))) ([.ref q6] : List Value).toArray s 0 0 (fun _ => False)) (F0 m 21 ls []) := by
    intro  x1 ls hl hV hR
    unfold cf_X6_canDoMany_s21_17 at hR
    unfold vc_X6_canDoMany_s21_17 at hV
    refine lv_iinc (v := (18 : Int32)) (lv' := [(2, .int (18 : Int32)), (0, .ref q6), (1, .int x1)]) hx hb dX6_canDoMany_21 hl (k := 2) rfl (by decide +kernel) (by decide) rfl (fun ls hl => ?_)
    refine lv_goto (tgt := 4) hx hb dX6_canDoMany_24 (by decide) ?_
    exact Ks4_18  x1 ls (lv_sub hl [1, 2, 0] rfl) hV hR
  have Ks4_17 : ∀  (x1 : Int32) (ls : Array Slot), lv_has ls 3 [(0, .ref q6), (1, .int x1), (2, .int (17 : Int32))] → vc_X6_canDoMany_s4_17  m_o m_f m_r g_R g_C m_rl m_lf m_ov x1 → cf_X6_canDoMany_s4_17  m_o m_f m_r g_R g_C m_rl m_lf m_ov x1 = R → W p l e (headSpec wsX6_canDoMany ({ frames := 2, cells := 0, slots := 0, locals := 45 })).room s m ([.ref q6] : List Value).toArray below meth c s.heap [] 0 0 (MQ below (rd_Q (some (.int R))) ([.ref q6] : List Value).toArray s 0 0 (fun _ => False)) (F0 m 4 ls []) := by
    intro  x1 ls hl hV hR
    unfold cf_X6_canDoMany_s4_17 at hR
    unfold vc_X6_canDoMany_s4_17 at hV
    refine lv_iload_n hx hb dX6_canDoMany_4 rfl (lv_at hl 2 rfl) ?_
    refine lv_bipush (v := (50 : Int32)) hx hb dX6_canDoMany_5 (by decide +kernel) ?_
    refine lv_icmp_ge (tgt := 27) hx hb dX6_canDoMany_7 (by decide) (fun c_0 => absurd c_0 (by decide +kernel)) (fun _ => ?_)
    refine lv_aload_n hx hb dX6_canDoMany_10 rfl (lv_at hl 0 rfl) ?_
    refine lv_iload_n hx hb dX6_canDoMany_11 rfl (lv_at hl 2 rfl) ?_
    obtain ⟨hv35, hV⟩ := hV
    refine rd_calli (va_runV (As := [.int (17 : Int32)]) (rest := []) ⟨hx, hb, hml, hown, hts⟩ (c_X6_canDo l dC dI q6 qA qB qF qR qC qL qS qO qY qH qW qM cyI cyJ cyZ m_th m_o m_f m_r m_b m_a u_F u_R g_F g_R g_C g_L m_rl m_lf m_ov m_pl g_S g_O g_Y g_H m_st g_W m_rm m_fs g_M (17 : Int32) hm_o hv35) (cwV 1 hts gX6_canDoMany_X6_canDo rfl rfl rfl (by decide +kernel) ⟨Nat.le_of_ble_eq_true rfl, Nat.le_of_ble_eq_true rfl⟩) ⟨rd_blind, va_recv hK hP (ci := 4) (q0 := 0) rfl rfl, fun U hU hW => ⟨rfl, by rw [hU]; exact hP, va_K.moved hW.alike (hK.sub [0, 1, 2] rfl)⟩⟩ rfl rfl hl.1 rfl (lv_room (Nat.le_of_ble_eq_true rfl)) dX6_canDoMany_12 ⟨Nat.le_refl _, Nat.le_refl _⟩) ?_
    refine lv_if_eq (tgt := 21) hx hb dX6_canDoMany_15 (by decide) (fun c_36 => ?_) (fun c_36 => ?_)
    · rw [if_pos c_36] at hR
      have hV := hV.1 c_36
      exact Ks21_17  x1 ls (lv_sub hl [0, 1, 2] rfl) hV hR
    · rw [if_neg c_36] at hR
      have hV := hV.2 c_36
      refine lv_iinc (v := (x1 + (1 : Int32))) (lv' := [(1, .int (x1 + (1 : Int32))), (0, .ref q6), (2, .int (17 : Int32))]) hx hb dX6_canDoMany_18 hl (k := 1) rfl rfl (by decide) rfl (fun ls hl => ?_)
      exact Ks21_17  (x1 + (1 : Int32)) ls (lv_sub hl [1, 0, 2] rfl) hV hR
  have Ks21_16 : ∀  (x1 : Int32) (ls : Array Slot), lv_has ls 3 [(0, .ref q6), (1, .int x1), (2, .int (16 : Int32))] → vc_X6_canDoMany_s21_16  m_o m_f m_r g_R g_C m_rl m_lf m_ov x1 → cf_X6_canDoMany_s21_16  m_o m_f m_r g_R g_C m_rl m_lf m_ov x1 = R → W p l e (headSpec wsX6_canDoMany ({ frames := 2, cells := 0, slots := 0, locals := 45 })).room s m ([.ref q6] : List Value).toArray below meth c s.heap [] 0 0 (MQ below (rd_Q (some (.int R))) ([.ref q6] : List Value).toArray s 0 0 (fun _ => False)) (F0 m 21 ls []) := by
    intro  x1 ls hl hV hR
    unfold cf_X6_canDoMany_s21_16 at hR
    unfold vc_X6_canDoMany_s21_16 at hV
    refine lv_iinc (v := (17 : Int32)) (lv' := [(2, .int (17 : Int32)), (0, .ref q6), (1, .int x1)]) hx hb dX6_canDoMany_21 hl (k := 2) rfl (by decide +kernel) (by decide) rfl (fun ls hl => ?_)
    refine lv_goto (tgt := 4) hx hb dX6_canDoMany_24 (by decide) ?_
    exact Ks4_17  x1 ls (lv_sub hl [1, 2, 0] rfl) hV hR
  have Ks4_16 : ∀  (x1 : Int32) (ls : Array Slot), lv_has ls 3 [(0, .ref q6), (1, .int x1), (2, .int (16 : Int32))] → vc_X6_canDoMany_s4_16  m_o m_f m_r g_R g_C m_rl m_lf m_ov x1 → cf_X6_canDoMany_s4_16  m_o m_f m_r g_R g_C m_rl m_lf m_ov x1 = R → W p l e (headSpec wsX6_canDoMany ({ frames := 2, cells := 0, slots := 0, locals := 45 })).room s m ([.ref q6] : List Value).toArray below meth c s.heap [] 0 0 (MQ below (rd_Q (some (.int R))) ([.ref q6] : List Value).toArray s 0 0 (fun _ => False)) (F0 m 4 ls []) := by
    intro  x1 ls hl hV hR
    unfold cf_X6_canDoMany_s4_16 at hR
    unfold vc_X6_canDoMany_s4_16 at hV
    refine lv_iload_n hx hb dX6_canDoMany_4 rfl (lv_at hl 2 rfl) ?_
    refine lv_bipush (v := (50 : Int32)) hx hb dX6_canDoMany_5 (by decide +kernel) ?_
    refine lv_icmp_ge (tgt := 27) hx hb dX6_canDoMany_7 (by decide) (fun c_0 => absurd c_0 (by decide +kernel)) (fun _ => ?_)
    refine lv_aload_n hx hb dX6_canDoMany_10 rfl (lv_at hl 0 rfl) ?_
    refine lv_iload_n hx hb dX6_canDoMany_11 rfl (lv_at hl 2 rfl) ?_
    obtain ⟨hv33, hV⟩ := hV
    refine rd_calli (va_runV (As := [.int (16 : Int32)]) (rest := []) ⟨hx, hb, hml, hown, hts⟩ (c_X6_canDo l dC dI q6 qA qB qF qR qC qL qS qO qY qH qW qM cyI cyJ cyZ m_th m_o m_f m_r m_b m_a u_F u_R g_F g_R g_C g_L m_rl m_lf m_ov m_pl g_S g_O g_Y g_H m_st g_W m_rm m_fs g_M (16 : Int32) hm_o hv33) (cwV 1 hts gX6_canDoMany_X6_canDo rfl rfl rfl (by decide +kernel) ⟨Nat.le_of_ble_eq_true rfl, Nat.le_of_ble_eq_true rfl⟩) ⟨rd_blind, va_recv hK hP (ci := 4) (q0 := 0) rfl rfl, fun U hU hW => ⟨rfl, by rw [hU]; exact hP, va_K.moved hW.alike (hK.sub [0, 1, 2] rfl)⟩⟩ rfl rfl hl.1 rfl (lv_room (Nat.le_of_ble_eq_true rfl)) dX6_canDoMany_12 ⟨Nat.le_refl _, Nat.le_refl _⟩) ?_
    refine lv_if_eq (tgt := 21) hx hb dX6_canDoMany_15 (by decide) (fun c_34 => ?_) (fun c_34 => ?_)
    · rw [if_pos c_34] at hR
      have hV := hV.1 c_34
      exact Ks21_16  x1 ls (lv_sub hl [0, 1, 2] rfl) hV hR
    · rw [if_neg c_34] at hR
      have hV := hV.2 c_34
      refine lv_iinc (v := (x1 + (1 : Int32))) (lv' := [(1, .int (x1 + (1 : Int32))), (0, .ref q6), (2, .int (16 : Int32))]) hx hb dX6_canDoMany_18 hl (k := 1) rfl rfl (by decide) rfl (fun ls hl => ?_)
      exact Ks21_16  (x1 + (1 : Int32)) ls (lv_sub hl [1, 0, 2] rfl) hV hR
  have Ks21_15 : ∀  (x1 : Int32) (ls : Array Slot), lv_has ls 3 [(0, .ref q6), (1, .int x1), (2, .int (15 : Int32))] → vc_X6_canDoMany_s21_15  m_o m_f m_r g_R g_C m_rl m_lf m_ov x1 → cf_X6_canDoMany_s21_15  m_o m_f m_r g_R g_C m_rl m_lf m_ov x1 = R → W p l e (headSpec wsX6_canDoMany ({ frames := 2, cells := 0, slots := 0, locals := 45 })).room s m ([.ref q6] : List Value).toArray below meth c s.heap [] 0 0 (MQ below (rd_Q (some (.int R))) ([.ref q6] : List Value).toArray s 0 0 (fun _ => False)) (F0 m 21 ls []) := by
    intro  x1 ls hl hV hR
    unfold cf_X6_canDoMany_s21_15 at hR
    unfold vc_X6_canDoMany_s21_15 at hV
    refine lv_iinc (v := (16 : Int32)) (lv' := [(2, .int (16 : Int32)), (0, .ref q6), (1, .int x1)]) hx hb dX6_canDoMany_21 hl (k := 2) rfl (by decide +kernel) (by decide) rfl (fun ls hl => ?_)
    refine lv_goto (tgt := 4) hx hb dX6_canDoMany_24 (by decide) ?_
    exact Ks4_16  x1 ls (lv_sub hl [1, 2, 0] rfl) hV hR
  have Ks4_15 : ∀  (x1 : Int32) (ls : Array Slot), lv_has ls 3 [(0, .ref q6), (1, .int x1), (2, .int (15 : Int32))] → vc_X6_canDoMany_s4_15  m_o m_f m_r g_R g_C m_rl m_lf m_ov x1 → cf_X6_canDoMany_s4_15  m_o m_f m_r g_R g_C m_rl m_lf m_ov x1 = R → W p l e (headSpec wsX6_canDoMany ({ frames := 2, cells := 0, slots := 0, locals := 45 })).room s m ([.ref q6] : List Value).toArray below meth c s.heap [] 0 0 (MQ below (rd_Q (some (.int R))) ([.ref q6] : List Value).toArray s 0 0 (fun _ => False)) (F0 m 4 ls []) := by
    intro  x1 ls hl hV hR
    unfold cf_X6_canDoMany_s4_15 at hR
    unfold vc_X6_canDoMany_s4_15 at hV
    refine lv_iload_n hx hb dX6_canDoMany_4 rfl (lv_at hl 2 rfl) ?_
    refine lv_bipush (v := (50 : Int32)) hx hb dX6_canDoMany_5 (by decide +kernel) ?_
    refine lv_icmp_ge (tgt := 27) hx hb dX6_canDoMany_7 (by decide) (fun c_0 => absurd c_0 (by decide +kernel)) (fun _ => ?_)
    refine lv_aload_n hx hb dX6_canDoMany_10 rfl (lv_at hl 0 rfl) ?_
    refine lv_iload_n hx hb dX6_canDoMany_11 rfl (lv_at hl 2 rfl) ?_
    obtain ⟨hv31, hV⟩ := hV
    refine rd_calli (va_runV (As := [.int (15 : Int32)]) (rest := []) ⟨hx, hb, hml, hown, hts⟩ (c_X6_canDo l dC dI q6 qA qB qF qR qC qL qS qO qY qH qW qM cyI cyJ cyZ m_th m_o m_f m_r m_b m_a u_F u_R g_F g_R g_C g_L m_rl m_lf m_ov m_pl g_S g_O g_Y g_H m_st g_W m_rm m_fs g_M (15 : Int32) hm_o hv31) (cwV 1 hts gX6_canDoMany_X6_canDo rfl rfl rfl (by decide +kernel) ⟨Nat.le_of_ble_eq_true rfl, Nat.le_of_ble_eq_true rfl⟩) ⟨rd_blind, va_recv hK hP (ci := 4) (q0 := 0) rfl rfl, fun U hU hW => ⟨rfl, by rw [hU]; exact hP, va_K.moved hW.alike (hK.sub [0, 1, 2] rfl)⟩⟩ rfl rfl hl.1 rfl (lv_room (Nat.le_of_ble_eq_true rfl)) dX6_canDoMany_12 ⟨Nat.le_refl _, Nat.le_refl _⟩) ?_
    refine lv_if_eq (tgt := 21) hx hb dX6_canDoMany_15 (by decide) (fun c_32 => ?_) (fun c_32 => ?_)
    · rw [if_pos c_32] at hR
      have hV := hV.1 c_32
      exact Ks21_15  x1 ls (lv_sub hl [0, 1, 2] rfl) hV hR
    · rw [if_neg c_32] at hR
      have hV := hV.2 c_32
      refine lv_iinc (v := (x1 + (1 : Int32))) (lv' := [(1, .int (x1 + (1 : Int32))), (0, .ref q6), (2, .int (15 : Int32))]) hx hb dX6_canDoMany_18 hl (k := 1) rfl rfl (by decide) rfl (fun ls hl => ?_)
      exact Ks21_15  (x1 + (1 : Int32)) ls (lv_sub hl [1, 0, 2] rfl) hV hR
  have Ks21_14 : ∀  (x1 : Int32) (ls : Array Slot), lv_has ls 3 [(0, .ref q6), (1, .int x1), (2, .int (14 : Int32))] → vc_X6_canDoMany_s21_14  m_o m_f m_r g_R g_C m_rl m_lf m_ov x1 → cf_X6_canDoMany_s21_14  m_o m_f m_r g_R g_C m_rl m_lf m_ov x1 = R → W p l e (headSpec wsX6_canDoMany ({ frames := 2, cells := 0, slots := 0, locals := 45 })).room s m ([.ref q6] : List Value).toArray below meth c s.heap [] 0 0 (MQ below (rd_Q (some (.int R))) ([.ref q6] : List Value).toArray s 0 0 (fun _ => False)) (F0 m 21 ls []) := by
    intro  x1 ls hl hV hR
    unfold cf_X6_canDoMany_s21_14 at hR
    unfold vc_X6_canDoMany_s21_14 at hV
    refine lv_iinc (v := (15 : Int32)) (lv' := [(2, .int (15 : Int32)), (0, .ref q6), (1, .int x1)]) hx hb dX6_canDoMany_21 hl (k := 2) rfl (by decide +kernel) (by decide) rfl (fun ls hl => ?_)
    refine lv_goto (tgt := 4) hx hb dX6_canDoMany_24 (by decide) ?_
    exact Ks4_15  x1 ls (lv_sub hl [1, 2, 0] rfl) hV hR
  have Ks4_14 : ∀  (x1 : Int32) (ls : Array Slot), lv_has ls 3 [(0, .ref q6), (1, .int x1), (2, .int (14 : Int32))] → vc_X6_canDoMany_s4_14  m_o m_f m_r g_R g_C m_rl m_lf m_ov x1 → cf_X6_canDoMany_s4_14  m_o m_f m_r g_R g_C m_rl m_lf m_ov x1 = R → W p l e (headSpec wsX6_canDoMany ({ frames := 2, cells := 0, slots := 0, locals := 45 })).room s m ([.ref q6] : List Value).toArray below meth c s.heap [] 0 0 (MQ below (rd_Q (some (.int R))) ([.ref q6] : List Value).toArray s 0 0 (fun _ => False)) (F0 m 4 ls []) := by
    intro  x1 ls hl hV hR
    unfold cf_X6_canDoMany_s4_14 at hR
    unfold vc_X6_canDoMany_s4_14 at hV
    refine lv_iload_n hx hb dX6_canDoMany_4 rfl (lv_at hl 2 rfl) ?_
    refine lv_bipush (v := (50 : Int32)) hx hb dX6_canDoMany_5 (by decide +kernel) ?_
    refine lv_icmp_ge (tgt := 27) hx hb dX6_canDoMany_7 (by decide) (fun c_0 => absurd c_0 (by decide +kernel)) (fun _ => ?_)
    refine lv_aload_n hx hb dX6_canDoMany_10 rfl (lv_at hl 0 rfl) ?_
    refine lv_iload_n hx hb dX6_canDoMany_11 rfl (lv_at hl 2 rfl) ?_
    obtain ⟨hv29, hV⟩ := hV
    refine rd_calli (va_runV (As := [.int (14 : Int32)]) (rest := []) ⟨hx, hb, hml, hown, hts⟩ (c_X6_canDo l dC dI q6 qA qB qF qR qC qL qS qO qY qH qW qM cyI cyJ cyZ m_th m_o m_f m_r m_b m_a u_F u_R g_F g_R g_C g_L m_rl m_lf m_ov m_pl g_S g_O g_Y g_H m_st g_W m_rm m_fs g_M (14 : Int32) hm_o hv29) (cwV 1 hts gX6_canDoMany_X6_canDo rfl rfl rfl (by decide +kernel) ⟨Nat.le_of_ble_eq_true rfl, Nat.le_of_ble_eq_true rfl⟩) ⟨rd_blind, va_recv hK hP (ci := 4) (q0 := 0) rfl rfl, fun U hU hW => ⟨rfl, by rw [hU]; exact hP, va_K.moved hW.alike (hK.sub [0, 1, 2] rfl)⟩⟩ rfl rfl hl.1 rfl (lv_room (Nat.le_of_ble_eq_true rfl)) dX6_canDoMany_12 ⟨Nat.le_refl _, Nat.le_refl _⟩) ?_
    refine lv_if_eq (tgt := 21) hx hb dX6_canDoMany_15 (by decide) (fun c_30 => ?_) (fun c_30 => ?_)
    · rw [if_pos c_30] at hR
      have hV := hV.1 c_30
      exact Ks21_14  x1 ls (lv_sub hl [0, 1, 2] rfl) hV hR
    · rw [if_neg c_30] at hR
      have hV := hV.2 c_30
      refine lv_iinc (v := (x1 + (1 : Int32))) (lv' := [(1, .int (x1 + (1 : Int32))), (0, .ref q6), (2, .int (14 : Int32))]) hx hb dX6_canDoMany_18 hl (k := 1) rfl rfl (by decide) rfl (fun ls hl => ?_)
      exact Ks21_14  (x1 + (1 : Int32)) ls (lv_sub hl [1, 0, 2] rfl) hV hR
  have Ks21_13 : ∀  (x1 : Int32) (ls : Array Slot), lv_has ls 3 [(0, .ref q6), (1, .int x1), (2, .int (13 : Int32))] → vc_X6_canDoMany_s21_13  m_o m_f m_r g_R g_C m_rl m_lf m_ov x1 → cf_X6_canDoMany_s21_13  m_o m_f m_r g_R g_C m_rl m_lf m_ov x1 = R → W p l e (headSpec wsX6_canDoMany ({ frames := 2, cells := 0, slots := 0, locals := 45 })).room s m ([.ref q6] : List Value).toArray below meth c s.heap [] 0 0 (MQ below (rd_Q (some (.int R))) ([.ref q6] : List Value).toArray s 0 0 (fun _ => False)) (F0 m 21 ls []) := by
    intro  x1 ls hl hV hR
    unfold cf_X6_canDoMany_s21_13 at hR
    unfold vc_X6_canDoMany_s21_13 at hV
    refine lv_iinc (v := (14 : Int32)) (lv' := [(2, .int (14 : Int32)), (0, .ref q6), (1, .int x1)]) hx hb dX6_canDoMany_21 hl (k := 2) rfl (by decide +kernel) (by decide) rfl (fun ls hl => ?_)
    refine lv_goto (tgt := 4) hx hb dX6_canDoMany_24 (by decide) ?_
    exact Ks4_14  x1 ls (lv_sub hl [1, 2, 0] rfl) hV hR
  have Ks4_13 : ∀  (x1 : Int32) (ls : Array Slot), lv_has ls 3 [(0, .ref q6), (1, .int x1), (2, .int (13 : Int32))] → vc_X6_canDoMany_s4_13  m_o m_f m_r g_R g_C m_rl m_lf m_ov x1 → cf_X6_canDoMany_s4_13  m_o m_f m_r g_R g_C m_rl m_lf m_ov x1 = R → W p l e (headSpec wsX6_canDoMany ({ frames := 2, cells := 0, slots := 0, locals := 45 })).room s m ([.ref q6] : List Value).toArray below meth c s.heap [] 0 0 (MQ below (rd_Q (some (.int R))) ([.ref q6] : List Value).toArray s 0 0 (fun _ => False)) (F0 m 4 ls []) := by
    intro  x1 ls hl hV hR
    unfold cf_X6_canDoMany_s4_13 at hR
    unfold vc_X6_canDoMany_s4_13 at hV
    refine lv_iload_n hx hb dX6_canDoMany_4 rfl (lv_at hl 2 rfl) ?_
    refine lv_bipush (v := (50 : Int32)) hx hb dX6_canDoMany_5 (by decide +kernel) ?_
    refine lv_icmp_ge (tgt := 27) hx hb dX6_canDoMany_7 (by decide) (fun c_0 => absurd c_0 (by decide +kernel)) (fun _ => ?_)
    refine lv_aload_n hx hb dX6_canDoMany_10 rfl (lv_at hl 0 rfl) ?_
    refine lv_iload_n hx hb dX6_canDoMany_11 rfl (lv_at hl 2 rfl) ?_
    obtain ⟨hv27, hV⟩ := hV
    refine rd_calli (va_runV (As := [.int (13 : Int32)]) (rest := []) ⟨hx, hb, hml, hown, hts⟩ (c_X6_canDo l dC dI q6 qA qB qF qR qC qL qS qO qY qH qW qM cyI cyJ cyZ m_th m_o m_f m_r m_b m_a u_F u_R g_F g_R g_C g_L m_rl m_lf m_ov m_pl g_S g_O g_Y g_H m_st g_W m_rm m_fs g_M (13 : Int32) hm_o hv27) (cwV 1 hts gX6_canDoMany_X6_canDo rfl rfl rfl (by decide +kernel) ⟨Nat.le_of_ble_eq_true rfl, Nat.le_of_ble_eq_true rfl⟩) ⟨rd_blind, va_recv hK hP (ci := 4) (q0 := 0) rfl rfl, fun U hU hW => ⟨rfl, by rw [hU]; exact hP, va_K.moved hW.alike (hK.sub [0, 1, 2] rfl)⟩⟩ rfl rfl hl.1 rfl (lv_room (Nat.le_of_ble_eq_true rfl)) dX6_canDoMany_12 ⟨Nat.le_refl _, Nat.le_refl _⟩) ?_
    refine lv_if_eq (tgt := 21) hx hb dX6_canDoMany_15 (by decide) (fun c_28 => ?_) (fun c_28 => ?_)
    · rw [if_pos c_28] at hR
      have hV := hV.1 c_28
      exact Ks21_13  x1 ls (lv_sub hl [0, 1, 2] rfl) hV hR
    · rw [if_neg c_28] at hR
      have hV := hV.2 c_28
      refine lv_iinc (v := (x1 + (1 : Int32))) (lv' := [(1, .int (x1 + (1 : Int32))), (0, .ref q6), (2, .int (13 : Int32))]) hx hb dX6_canDoMany_18 hl (k := 1) rfl rfl (by decide) rfl (fun ls hl => ?_)
      exact Ks21_13  (x1 + (1 : Int32)) ls (lv_sub hl [1, 0, 2] rfl) hV hR
  have Ks21_12 : ∀  (x1 : Int32) (ls : Array Slot), lv_has ls 3 [(0, .ref q6), (1, .int x1), (2, .int (12 : Int32))] → vc_X6_canDoMany_s21_12  m_o m_f m_r g_R g_C m_rl m_lf m_ov x1 → cf_X6_canDoMany_s21_12  m_o m_f m_r g_R g_C m_rl m_lf m_ov x1 = R → W p l e (headSpec wsX6_canDoMany ({ frames := 2, cells := 0, slots := 0, locals := 45 })).room s m ([.ref q6] : List Value).toArray below meth c s.heap [] 0 0 (MQ below (rd_Q (some (.int R))) ([.ref q6] : List Value).toArray s 0 0 (fun _ => False)) (F0 m 21 ls []) := by
    intro  x1 ls hl hV hR
    unfold cf_X6_canDoMany_s21_12 at hR
    unfold vc_X6_canDoMany_s21_12 at hV
    refine lv_iinc (v := (13 : Int32)) (lv' := [(2, .int (13 : Int32)), (0, .ref q6), (1, .int x1)]) hx hb dX6_canDoMany_21 hl (k := 2) rfl (by decide +kernel) (by decide) rfl (fun ls hl => ?_)
    refine lv_goto (tgt := 4) hx hb dX6_canDoMany_24 (by decide) ?_
    exact Ks4_13  x1 ls (lv_sub hl [1, 2, 0] rfl) hV hR
  have Ks4_12 : ∀  (x1 : Int32) (ls : Array Slot), lv_has ls 3 [(0, .ref q6), (1, .int x1), (2, .int (12 : Int32))] → vc_X6_canDoMany_s4_12  m_o m_f m_r g_R g_C m_rl m_lf m_ov x1 → cf_X6_canDoMany_s4_12  m_o m_f m_r g_R g_C m_rl m_lf m_ov x1 = R → W p l e (headSpec wsX6_canDoMany ({ frames := 2, cells := 0, slots := 0, locals := 45 })).room s m ([.ref q6] : List Value).toArray below meth c s.heap [] 0 0 (MQ below (rd_Q (some (.int R))) ([.ref q6] : List Value).toArray s 0 0 (fun _ => False)) (F0 m 4 ls []) := by
    intro  x1 ls hl hV hR
    unfold cf_X6_canDoMany_s4_12 at hR
    unfold vc_X6_canDoMany_s4_12 at hV
    refine lv_iload_n hx hb dX6_canDoMany_4 rfl (lv_at hl 2 rfl) ?_
    refine lv_bipush (v := (50 : Int32)) hx hb dX6_canDoMany_5 (by decide +kernel) ?_
    refine lv_icmp_ge (tgt := 27) hx hb dX6_canDoMany_7 (by decide) (fun c_0 => absurd c_0 (by decide +kernel)) (fun _ => ?_)
    refine lv_aload_n hx hb dX6_canDoMany_10 rfl (lv_at hl 0 rfl) ?_
    refine lv_iload_n hx hb dX6_canDoMany_11 rfl (lv_at hl 2 rfl) ?_
    obtain ⟨hv25, hV⟩ := hV
    refine rd_calli (va_runV (As := [.int (12 : Int32)]) (rest := []) ⟨hx, hb, hml, hown, hts⟩ (c_X6_canDo l dC dI q6 qA qB qF qR qC qL qS qO qY qH qW qM cyI cyJ cyZ m_th m_o m_f m_r m_b m_a u_F u_R g_F g_R g_C g_L m_rl m_lf m_ov m_pl g_S g_O g_Y g_H m_st g_W m_rm m_fs g_M (12 : Int32) hm_o hv25) (cwV 1 hts gX6_canDoMany_X6_canDo rfl rfl rfl (by decide +kernel) ⟨Nat.le_of_ble_eq_true rfl, Nat.le_of_ble_eq_true rfl⟩) ⟨rd_blind, va_recv hK hP (ci := 4) (q0 := 0) rfl rfl, fun U hU hW => ⟨rfl, by rw [hU]; exact hP, va_K.moved hW.alike (hK.sub [0, 1, 2] rfl)⟩⟩ rfl rfl hl.1 rfl (lv_room (Nat.le_of_ble_eq_true rfl)) dX6_canDoMany_12 ⟨Nat.le_refl _, Nat.le_refl _⟩) ?_
    refine lv_if_eq (tgt := 21) hx hb dX6_canDoMany_15 (by decide) (fun c_26 => ?_) (fun c_26 => ?_)
    · rw [if_pos c_26] at hR
      have hV := hV.1 c_26
      exact Ks21_12  x1 ls (lv_sub hl [0, 1, 2] rfl) hV hR
    · rw [if_neg c_26] at hR
      have hV := hV.2 c_26
      refine lv_iinc (v := (x1 + (1 : Int32))) (lv' := [(1, .int (x1 + (1 : Int32))), (0, .ref q6), (2, .int (12 : Int32))]) hx hb dX6_canDoMany_18 hl (k := 1) rfl rfl (by decide) rfl (fun ls hl => ?_)
      exact Ks21_12  (x1 + (1 : Int32)) ls (lv_sub hl [1, 0, 2] rfl) hV hR
  have Ks21_11 : ∀  (x1 : Int32) (ls : Array Slot), lv_has ls 3 [(0, .ref q6), (1, .int x1), (2, .int (11 : Int32))] → vc_X6_canDoMany_s21_11  m_o m_f m_r g_R g_C m_rl m_lf m_ov x1 → cf_X6_canDoMany_s21_11  m_o m_f m_r g_R g_C m_rl m_lf m_ov x1 = R → W p l e (headSpec wsX6_canDoMany ({ frames := 2, cells := 0, slots := 0, locals := 45 })).room s m ([.ref q6] : List Value).toArray below meth c s.heap [] 0 0 (MQ below (rd_Q (some (.int R))) ([.ref q6] : List Value).toArray s 0 0 (fun _ => False)) (F0 m 21 ls []) := by
    intro  x1 ls hl hV hR
    unfold cf_X6_canDoMany_s21_11 at hR
    unfold vc_X6_canDoMany_s21_11 at hV
    refine lv_iinc (v := (12 : Int32)) (lv' := [(2, .int (12 : Int32)), (0, .ref q6), (1, .int x1)]) hx hb dX6_canDoMany_21 hl (k := 2) rfl (by decide +kernel) (by decide) rfl (fun ls hl => ?_)
    refine lv_goto (tgt := 4) hx hb dX6_canDoMany_24 (by decide) ?_
    exact Ks4_12  x1 ls (lv_sub hl [1, 2, 0] rfl) hV hR
  have Ks4_11 : ∀  (x1 : Int32) (ls : Array Slot), lv_has ls 3 [(0, .ref q6), (1, .int x1), (2, .int (11 : Int32))] → vc_X6_canDoMany_s4_11  m_o m_f m_r g_R g_C m_rl m_lf m_ov x1 → cf_X6_canDoMany_s4_11  m_o m_f m_r g_R g_C m_rl m_lf m_ov x1 = R → W p l e (headSpec wsX6_canDoMany ({ frames := 2, cells := 0, slots := 0, locals := 45 })).room s m ([.ref q6] : List Value).toArray below meth c s.heap [] 0 0 (MQ below (rd_Q (some (.int R))) ([.ref q6] : List Value).toArray s 0 0 (fun _ => False)) (F0 m 4 ls []) := by
    intro  x1 ls hl hV hR
    unfold cf_X6_canDoMany_s4_11 at hR
    unfold vc_X6_canDoMany_s4_11 at hV
    refine lv_iload_n hx hb dX6_canDoMany_4 rfl (lv_at hl 2 rfl) ?_
    refine lv_bipush (v := (50 : Int32)) hx hb dX6_canDoMany_5 (by decide +kernel) ?_
    refine lv_icmp_ge (tgt := 27) hx hb dX6_canDoMany_7 (by decide) (fun c_0 => absurd c_0 (by decide +kernel)) (fun _ => ?_)
    refine lv_aload_n hx hb dX6_canDoMany_10 rfl (lv_at hl 0 rfl) ?_
    refine lv_iload_n hx hb dX6_canDoMany_11 rfl (lv_at hl 2 rfl) ?_
    obtain ⟨hv23, hV⟩ := hV
    refine rd_calli (va_runV (As := [.int (11 : Int32)]) (rest := []) ⟨hx, hb, hml, hown, hts⟩ (c_X6_canDo l dC dI q6 qA qB qF qR qC qL qS qO qY qH qW qM cyI cyJ cyZ m_th m_o m_f m_r m_b m_a u_F u_R g_F g_R g_C g_L m_rl m_lf m_ov m_pl g_S g_O g_Y g_H m_st g_W m_rm m_fs g_M (11 : Int32) hm_o hv23) (cwV 1 hts gX6_canDoMany_X6_canDo rfl rfl rfl (by decide +kernel) ⟨Nat.le_of_ble_eq_true rfl, Nat.le_of_ble_eq_true rfl⟩) ⟨rd_blind, va_recv hK hP (ci := 4) (q0 := 0) rfl rfl, fun U hU hW => ⟨rfl, by rw [hU]; exact hP, va_K.moved hW.alike (hK.sub [0, 1, 2] rfl)⟩⟩ rfl rfl hl.1 rfl (lv_room (Nat.le_of_ble_eq_true rfl)) dX6_canDoMany_12 ⟨Nat.le_refl _, Nat.le_refl _⟩) ?_
    refine lv_if_eq (tgt := 21) hx hb dX6_canDoMany_15 (by decide) (fun c_24 => ?_) (fun c_24 => ?_)
    · rw [if_pos c_24] at hR
      have hV := hV.1 c_24
      exact Ks21_11  x1 ls (lv_sub hl [0, 1, 2] rfl) hV hR
    · rw [if_neg c_24] at hR
      have hV := hV.2 c_24
      refine lv_iinc (v := (x1 + (1 : Int32))) (lv' := [(1, .int (x1 + (1 : Int32))), (0, .ref q6), (2, .int (11 : Int32))]) hx hb dX6_canDoMany_18 hl (k := 1) rfl rfl (by decide) rfl (fun ls hl => ?_)
      exact Ks21_11  (x1 + (1 : Int32)) ls (lv_sub hl [1, 0, 2] rfl) hV hR
  have Ks21_10 : ∀  (x1 : Int32) (ls : Array Slot), lv_has ls 3 [(0, .ref q6), (1, .int x1), (2, .int (10 : Int32))] → vc_X6_canDoMany_s21_10  m_o m_f m_r g_R g_C m_rl m_lf m_ov x1 → cf_X6_canDoMany_s21_10  m_o m_f m_r g_R g_C m_rl m_lf m_ov x1 = R → W p l e (headSpec wsX6_canDoMany ({ frames := 2, cells := 0, slots := 0, locals := 45 })).room s m ([.ref q6] : List Value).toArray below meth c s.heap [] 0 0 (MQ below (rd_Q (some (.int R))) ([.ref q6] : List Value).toArray s 0 0 (fun _ => False)) (F0 m 21 ls []) := by
    intro  x1 ls hl hV hR
    unfold cf_X6_canDoMany_s21_10 at hR
    unfold vc_X6_canDoMany_s21_10 at hV
    refine lv_iinc (v := (11 : Int32)) (lv' := [(2, .int (11 : Int32)), (0, .ref q6), (1, .int x1)]) hx hb dX6_canDoMany_21 hl (k := 2) rfl (by decide +kernel) (by decide) rfl (fun ls hl => ?_)
    refine lv_goto (tgt := 4) hx hb dX6_canDoMany_24 (by decide) ?_
    exact Ks4_11  x1 ls (lv_sub hl [1, 2, 0] rfl) hV hR
  have Ks4_10 : ∀  (x1 : Int32) (ls : Array Slot), lv_has ls 3 [(0, .ref q6), (1, .int x1), (2, .int (10 : Int32))] → vc_X6_canDoMany_s4_10  m_o m_f m_r g_R g_C m_rl m_lf m_ov x1 → cf_X6_canDoMany_s4_10  m_o m_f m_r g_R g_C m_rl m_lf m_ov x1 = R → W p l e (headSpec wsX6_canDoMany ({ frames := 2, cells := 0, slots := 0, locals := 45 })).room s m ([.ref q6] : List Value).toArray below meth c s.heap [] 0 0 (MQ below (rd_Q (some (.int R))) ([.ref q6] : List Value).toArray s 0 0 (fun _ => False)) (F0 m 4 ls []) := by
    intro  x1 ls hl hV hR
    unfold cf_X6_canDoMany_s4_10 at hR
    unfold vc_X6_canDoMany_s4_10 at hV
    refine lv_iload_n hx hb dX6_canDoMany_4 rfl (lv_at hl 2 rfl) ?_
    refine lv_bipush (v := (50 : Int32)) hx hb dX6_canDoMany_5 (by decide +kernel) ?_
    refine lv_icmp_ge (tgt := 27) hx hb dX6_canDoMany_7 (by decide) (fun c_0 => absurd c_0 (by decide +kernel)) (fun _ => ?_)
    refine lv_aload_n hx hb dX6_canDoMany_10 rfl (lv_at hl 0 rfl) ?_
    refine lv_iload_n hx hb dX6_canDoMany_11 rfl (lv_at hl 2 rfl) ?_
    obtain ⟨hv21, hV⟩ := hV
    refine rd_calli (va_runV (As := [.int (10 : Int32)]) (rest := []) ⟨hx, hb, hml, hown, hts⟩ (c_X6_canDo l dC dI q6 qA qB qF qR qC qL qS qO qY qH qW qM cyI cyJ cyZ m_th m_o m_f m_r m_b m_a u_F u_R g_F g_R g_C g_L m_rl m_lf m_ov m_pl g_S g_O g_Y g_H m_st g_W m_rm m_fs g_M (10 : Int32) hm_o hv21) (cwV 1 hts gX6_canDoMany_X6_canDo rfl rfl rfl (by decide +kernel) ⟨Nat.le_of_ble_eq_true rfl, Nat.le_of_ble_eq_true rfl⟩) ⟨rd_blind, va_recv hK hP (ci := 4) (q0 := 0) rfl rfl, fun U hU hW => ⟨rfl, by rw [hU]; exact hP, va_K.moved hW.alike (hK.sub [0, 1, 2] rfl)⟩⟩ rfl rfl hl.1 rfl (lv_room (Nat.le_of_ble_eq_true rfl)) dX6_canDoMany_12 ⟨Nat.le_refl _, Nat.le_refl _⟩) ?_
    refine lv_if_eq (tgt := 21) hx hb dX6_canDoMany_15 (by decide) (fun c_22 => ?_) (fun c_22 => ?_)
    · rw [if_pos c_22] at hR
      have hV := hV.1 c_22
      exact Ks21_10  x1 ls (lv_sub hl [0, 1, 2] rfl) hV hR
    · rw [if_neg c_22] at hR
      have hV := hV.2 c_22
      refine lv_iinc (v := (x1 + (1 : Int32))) (lv' := [(1, .int (x1 + (1 : Int32))), (0, .ref q6), (2, .int (10 : Int32))]) hx hb dX6_canDoMany_18 hl (k := 1) rfl rfl (by decide) rfl (fun ls hl => ?_)
      exact Ks21_10  (x1 + (1 : Int32)) ls (lv_sub hl [1, 0, 2] rfl) hV hR
  have Ks21_9 : ∀  (x1 : Int32) (ls : Array Slot), lv_has ls 3 [(0, .ref q6), (1, .int x1), (2, .int (9 : Int32))] → vc_X6_canDoMany_s21_9  m_o m_f m_r g_R g_C m_rl m_lf m_ov x1 → cf_X6_canDoMany_s21_9  m_o m_f m_r g_R g_C m_rl m_lf m_ov x1 = R → W p l e (headSpec wsX6_canDoMany ({ frames := 2, cells := 0, slots := 0, locals := 45 })).room s m ([.ref q6] : List Value).toArray below meth c s.heap [] 0 0 (MQ below (rd_Q (some (.int R))) ([.ref q6] : List Value).toArray s 0 0 (fun _ => False)) (F0 m 21 ls []) := by
    intro  x1 ls hl hV hR
    unfold cf_X6_canDoMany_s21_9 at hR
    unfold vc_X6_canDoMany_s21_9 at hV
    refine lv_iinc (v := (10 : Int32)) (lv' := [(2, .int (10 : Int32)), (0, .ref q6), (1, .int x1)]) hx hb dX6_canDoMany_21 hl (k := 2) rfl (by decide +kernel) (by decide) rfl (fun ls hl => ?_)
    refine lv_goto (tgt := 4) hx hb dX6_canDoMany_24 (by decide) ?_
    exact Ks4_10  x1 ls (lv_sub hl [1, 2, 0] rfl) hV hR
  have Ks4_9 : ∀  (x1 : Int32) (ls : Array Slot), lv_has ls 3 [(0, .ref q6), (1, .int x1), (2, .int (9 : Int32))] → vc_X6_canDoMany_s4_9  m_o m_f m_r g_R g_C m_rl m_lf m_ov x1 → cf_X6_canDoMany_s4_9  m_o m_f m_r g_R g_C m_rl m_lf m_ov x1 = R → W p l e (headSpec wsX6_canDoMany ({ frames := 2, cells := 0, slots := 0, locals := 45 })).room s m ([.ref q6] : List Value).toArray below meth c s.heap [] 0 0 (MQ below (rd_Q (some (.int R))) ([.ref q6] : List Value).toArray s 0 0 (fun _ => False)) (F0 m 4 ls []) := by
    intro  x1 ls hl hV hR
    unfold cf_X6_canDoMany_s4_9 at hR
    unfold vc_X6_canDoMany_s4_9 at hV
    refine lv_iload_n hx hb dX6_canDoMany_4 rfl (lv_at hl 2 rfl) ?_
    refine lv_bipush (v := (50 : Int32)) hx hb dX6_canDoMany_5 (by decide +kernel) ?_
    refine lv_icmp_ge (tgt := 27) hx hb dX6_canDoMany_7 (by decide) (fun c_0 => absurd c_0 (by decide +kernel)) (fun _ => ?_)
    refine lv_aload_n hx hb dX6_canDoMany_10 rfl (lv_at hl 0 rfl) ?_
    refine lv_iload_n hx hb dX6_canDoMany_11 rfl (lv_at hl 2 rfl) ?_
    obtain ⟨hv19, hV⟩ := hV
    refine rd_calli (va_runV (As := [.int (9 : Int32)]) (rest := []) ⟨hx, hb, hml, hown, hts⟩ (c_X6_canDo l dC dI q6 qA qB qF qR qC qL qS qO qY qH qW qM cyI cyJ cyZ m_th m_o m_f m_r m_b m_a u_F u_R g_F g_R g_C g_L m_rl m_lf m_ov m_pl g_S g_O g_Y g_H m_st g_W m_rm m_fs g_M (9 : Int32) hm_o hv19) (cwV 1 hts gX6_canDoMany_X6_canDo rfl rfl rfl (by decide +kernel) ⟨Nat.le_of_ble_eq_true rfl, Nat.le_of_ble_eq_true rfl⟩) ⟨rd_blind, va_recv hK hP (ci := 4) (q0 := 0) rfl rfl, fun U hU hW => ⟨rfl, by rw [hU]; exact hP, va_K.moved hW.alike (hK.sub [0, 1, 2] rfl)⟩⟩ rfl rfl hl.1 rfl (lv_room (Nat.le_of_ble_eq_true rfl)) dX6_canDoMany_12 ⟨Nat.le_refl _, Nat.le_refl _⟩) ?_
    refine lv_if_eq (tgt := 21) hx hb dX6_canDoMany_15 (by decide) (fun c_20 => ?_) (fun c_20 => ?_)
    · rw [if_pos c_20] at hR
      have hV := hV.1 c_20
      exact Ks21_9  x1 ls (lv_sub hl [0, 1, 2] rfl) hV hR
    · rw [if_neg c_20] at hR
      have hV := hV.2 c_20
      refine lv_iinc (v := (x1 + (1 : Int32))) (lv' := [(1, .int (x1 + (1 : Int32))), (0, .ref q6), (2, .int (9 : Int32))]) hx hb dX6_canDoMany_18 hl (k := 1) rfl rfl (by decide) rfl (fun ls hl => ?_)
      exact Ks21_9  (x1 + (1 : Int32)) ls (lv_sub hl [1, 0, 2] rfl) hV hR
  have Ks21_8 : ∀  (x1 : Int32) (ls : Array Slot), lv_has ls 3 [(0, .ref q6), (1, .int x1), (2, .int (8 : Int32))] → vc_X6_canDoMany_s21_8  m_o m_f m_r g_R g_C m_rl m_lf m_ov x1 → cf_X6_canDoMany_s21_8  m_o m_f m_r g_R g_C m_rl m_lf m_ov x1 = R → W p l e (headSpec wsX6_canDoMany ({ frames := 2, cells := 0, slots := 0, locals := 45 })).room s m ([.ref q6] : List Value).toArray below meth c s.heap [] 0 0 (MQ below (rd_Q (some (.int R))) ([.ref q6] : List Value).toArray s 0 0 (fun _ => False)) (F0 m 21 ls []) := by
    intro  x1 ls hl hV hR
    unfold cf_X6_canDoMany_s21_8 at hR
    unfold vc_X6_canDoMany_s21_8 at hV
    refine lv_iinc (v := (9 : Int32)) (lv' := [(2, .int (9 : Int32)), (0, .ref q6), (1, .int x1)]) hx hb dX6_canDoMany_21 hl (k := 2) rfl (by decide +kernel) (by decide) rfl (fun ls hl => ?_)
    refine lv_goto (tgt := 4) hx hb dX6_canDoMany_24 (by decide) ?_
    exact Ks4_9  x1 ls (lv_sub hl [1, 2, 0] rfl) hV hR
  have Ks4_8 : ∀  (x1 : Int32) (ls : Array Slot), lv_has ls 3 [(0, .ref q6), (1, .int x1), (2, .int (8 : Int32))] → vc_X6_canDoMany_s4_8  m_o m_f m_r g_R g_C m_rl m_lf m_ov x1 → cf_X6_canDoMany_s4_8  m_o m_f m_r g_R g_C m_rl m_lf m_ov x1 = R → W p l e (headSpec wsX6_canDoMany ({ frames := 2, cells := 0, slots := 0, locals := 45 })).room s m ([.ref q6] : List Value).toArray below meth c s.heap [] 0 0 (MQ below (rd_Q (some (.int R))) ([.ref q6] : List Value).toArray s 0 0 (fun _ => False)) (F0 m 4 ls []) := by
    intro  x1 ls hl hV hR
    unfold cf_X6_canDoMany_s4_8 at hR
    unfold vc_X6_canDoMany_s4_8 at hV
    refine lv_iload_n hx hb dX6_canDoMany_4 rfl (lv_at hl 2 rfl) ?_
    refine lv_bipush (v := (50 : Int32)) hx hb dX6_canDoMany_5 (by decide +kernel) ?_
    refine lv_icmp_ge (tgt := 27) hx hb dX6_canDoMany_7 (by decide) (fun c_0 => absurd c_0 (by decide +kernel)) (fun _ => ?_)
    refine lv_aload_n hx hb dX6_canDoMany_10 rfl (lv_at hl 0 rfl) ?_
    refine lv_iload_n hx hb dX6_canDoMany_11 rfl (lv_at hl 2 rfl) ?_
    obtain ⟨hv17, hV⟩ := hV
    refine rd_calli (va_runV (As := [.int (8 : Int32)]) (rest := []) ⟨hx, hb, hml, hown, hts⟩ (c_X6_canDo l dC dI q6 qA qB qF qR qC qL qS qO qY qH qW qM cyI cyJ cyZ m_th m_o m_f m_r m_b m_a u_F u_R g_F g_R g_C g_L m_rl m_lf m_ov m_pl g_S g_O g_Y g_H m_st g_W m_rm m_fs g_M (8 : Int32) hm_o hv17) (cwV 1 hts gX6_canDoMany_X6_canDo rfl rfl rfl (by decide +kernel) ⟨Nat.le_of_ble_eq_true rfl, Nat.le_of_ble_eq_true rfl⟩) ⟨rd_blind, va_recv hK hP (ci := 4) (q0 := 0) rfl rfl, fun U hU hW => ⟨rfl, by rw [hU]; exact hP, va_K.moved hW.alike (hK.sub [0, 1, 2] rfl)⟩⟩ rfl rfl hl.1 rfl (lv_room (Nat.le_of_ble_eq_true rfl)) dX6_canDoMany_12 ⟨Nat.le_refl _, Nat.le_refl _⟩) ?_
    refine lv_if_eq (tgt := 21) hx hb dX6_canDoMany_15 (by decide) (fun c_18 => ?_) (fun c_18 => ?_)
    · rw [if_pos c_18] at hR
      have hV := hV.1 c_18
      exact Ks21_8  x1 ls (lv_sub hl [0, 1, 2] rfl) hV hR
    · rw [if_neg c_18] at hR
      have hV := hV.2 c_18
      refine lv_iinc (v := (x1 + (1 : Int32))) (lv' := [(1, .int (x1 + (1 : Int32))), (0, .ref q6), (2, .int (8 : Int32))]) hx hb dX6_canDoMany_18 hl (k := 1) rfl rfl (by decide) rfl (fun ls hl => ?_)
      exact Ks21_8  (x1 + (1 : Int32)) ls (lv_sub hl [1, 0, 2] rfl) hV hR
  have Ks21_7 : ∀  (x1 : Int32) (ls : Array Slot), lv_has ls 3 [(0, .ref q6), (1, .int x1), (2, .int (7 : Int32))] → vc_X6_canDoMany_s21_7  m_o m_f m_r g_R g_C m_rl m_lf m_ov x1 → cf_X6_canDoMany_s21_7  m_o m_f m_r g_R g_C m_rl m_lf m_ov x1 = R → W p l e (headSpec wsX6_canDoMany ({ frames := 2, cells := 0, slots := 0, locals := 45 })).room s m ([.ref q6] : List Value).toArray below meth c s.heap [] 0 0 (MQ below (rd_Q (some (.int R))) ([.ref q6] : List Value).toArray s 0 0 (fun _ => False)) (F0 m 21 ls []) := by
    intro  x1 ls hl hV hR
    unfold cf_X6_canDoMany_s21_7 at hR
    unfold vc_X6_canDoMany_s21_7 at hV
    refine lv_iinc (v := (8 : Int32)) (lv' := [(2, .int (8 : Int32)), (0, .ref q6), (1, .int x1)]) hx hb dX6_canDoMany_21 hl (k := 2) rfl (by decide +kernel) (by decide) rfl (fun ls hl => ?_)
    refine lv_goto (tgt := 4) hx hb dX6_canDoMany_24 (by decide) ?_
    exact Ks4_8  x1 ls (lv_sub hl [1, 2, 0] rfl) hV hR
  have Ks4_7 : ∀  (x1 : Int32) (ls : Array Slot), lv_has ls 3 [(0, .ref q6), (1, .int x1), (2, .int (7 : Int32))] → vc_X6_canDoMany_s4_7  m_o m_f m_r g_R g_C m_rl m_lf m_ov x1 → cf_X6_canDoMany_s4_7  m_o m_f m_r g_R g_C m_rl m_lf m_ov x1 = R → W p l e (headSpec wsX6_canDoMany ({ frames := 2, cells := 0, slots := 0, locals := 45 })).room s m ([.ref q6] : List Value).toArray below meth c s.heap [] 0 0 (MQ below (rd_Q (some (.int R))) ([.ref q6] : List Value).toArray s 0 0 (fun _ => False)) (F0 m 4 ls []) := by
    intro  x1 ls hl hV hR
    unfold cf_X6_canDoMany_s4_7 at hR
    unfold vc_X6_canDoMany_s4_7 at hV
    refine lv_iload_n hx hb dX6_canDoMany_4 rfl (lv_at hl 2 rfl) ?_
    refine lv_bipush (v := (50 : Int32)) hx hb dX6_canDoMany_5 (by decide +kernel) ?_
    refine lv_icmp_ge (tgt := 27) hx hb dX6_canDoMany_7 (by decide) (fun c_0 => absurd c_0 (by decide +kernel)) (fun _ => ?_)
    refine lv_aload_n hx hb dX6_canDoMany_10 rfl (lv_at hl 0 rfl) ?_
    refine lv_iload_n hx hb dX6_canDoMany_11 rfl (lv_at hl 2 rfl) ?_
    obtain ⟨hv15, hV⟩ := hV
    refine rd_calli (va_runV (As := [.int (7 : Int32)]) (rest := []) ⟨hx, hb, hml, hown, hts⟩ (c_X6_canDo l dC dI q6 qA qB qF qR qC qL qS qO qY qH qW qM cyI cyJ cyZ m_th m_o m_f m_r m_b m_a u_F u_R g_F g_R g_C g_L m_rl m_lf m_ov m_pl g_S g_O g_Y g_H m_st g_W m_rm m_fs g_M (7 : Int32) hm_o hv15) (cwV 1 hts gX6_canDoMany_X6_canDo rfl rfl rfl (by decide +kernel) ⟨Nat.le_of_ble_eq_true rfl, Nat.le_of_ble_eq_true rfl⟩) ⟨rd_blind, va_recv hK hP (ci := 4) (q0 := 0) rfl rfl, fun U hU hW => ⟨rfl, by rw [hU]; exact hP, va_K.moved hW.alike (hK.sub [0, 1, 2] rfl)⟩⟩ rfl rfl hl.1 rfl (lv_room (Nat.le_of_ble_eq_true rfl)) dX6_canDoMany_12 ⟨Nat.le_refl _, Nat.le_refl _⟩) ?_
    refine lv_if_eq (tgt := 21) hx hb dX6_canDoMany_15 (by decide) (fun c_16 => ?_) (fun c_16 => ?_)
    · rw [if_pos c_16] at hR
      have hV := hV.1 c_16
      exact Ks21_7  x1 ls (lv_sub hl [0, 1, 2] rfl) hV hR
    · rw [if_neg c_16] at hR
      have hV := hV.2 c_16
      refine lv_iinc (v := (x1 + (1 : Int32))) (lv' := [(1, .int (x1 + (1 : Int32))), (0, .ref q6), (2, .int (7 : Int32))]) hx hb dX6_canDoMany_18 hl (k := 1) rfl rfl (by decide) rfl (fun ls hl => ?_)
      exact Ks21_7  (x1 + (1 : Int32)) ls (lv_sub hl [1, 0, 2] rfl) hV hR
  have Ks21_6 : ∀  (x1 : Int32) (ls : Array Slot), lv_has ls 3 [(0, .ref q6), (1, .int x1), (2, .int (6 : Int32))] → vc_X6_canDoMany_s21_6  m_o m_f m_r g_R g_C m_rl m_lf m_ov x1 → cf_X6_canDoMany_s21_6  m_o m_f m_r g_R g_C m_rl m_lf m_ov x1 = R → W p l e (headSpec wsX6_canDoMany ({ frames := 2, cells := 0, slots := 0, locals := 45 })).room s m ([.ref q6] : List Value).toArray below meth c s.heap [] 0 0 (MQ below (rd_Q (some (.int R))) ([.ref q6] : List Value).toArray s 0 0 (fun _ => False)) (F0 m 21 ls []) := by
    intro  x1 ls hl hV hR
    unfold cf_X6_canDoMany_s21_6 at hR
    unfold vc_X6_canDoMany_s21_6 at hV
    refine lv_iinc (v := (7 : Int32)) (lv' := [(2, .int (7 : Int32)), (0, .ref q6), (1, .int x1)]) hx hb dX6_canDoMany_21 hl (k := 2) rfl (by decide +kernel) (by decide) rfl (fun ls hl => ?_)
    refine lv_goto (tgt := 4) hx hb dX6_canDoMany_24 (by decide) ?_
    exact Ks4_7  x1 ls (lv_sub hl [1, 2, 0] rfl) hV hR
  have Ks4_6 : ∀  (x1 : Int32) (ls : Array Slot), lv_has ls 3 [(0, .ref q6), (1, .int x1), (2, .int (6 : Int32))] → vc_X6_canDoMany_s4_6  m_o m_f m_r g_R g_C m_rl m_lf m_ov x1 → cf_X6_canDoMany_s4_6  m_o m_f m_r g_R g_C m_rl m_lf m_ov x1 = R → W p l e (headSpec wsX6_canDoMany ({ frames := 2, cells := 0, slots := 0, locals := 45 })).room s m ([.ref q6] : List Value).toArray below meth c s.heap [] 0 0 (MQ below (rd_Q (some (.int R))) ([.ref q6] : List Value).toArray s 0 0 (fun _ => False)) (F0 m 4 ls []) := by
    intro  x1 ls hl hV hR
    unfold cf_X6_canDoMany_s4_6 at hR
    unfold vc_X6_canDoMany_s4_6 at hV
    refine lv_iload_n hx hb dX6_canDoMany_4 rfl (lv_at hl 2 rfl) ?_
    refine lv_bipush (v := (50 : Int32)) hx hb dX6_canDoMany_5 (by decide +kernel) ?_
    refine lv_icmp_ge (tgt := 27) hx hb dX6_canDoMany_7 (by decide) (fun c_0 => absurd c_0 (by decide +kernel)) (fun _ => ?_)
    refine lv_aload_n hx hb dX6_canDoMany_10 rfl (lv_at hl 0 rfl) ?_
    refine lv_iload_n hx hb dX6_canDoMany_11 rfl (lv_at hl 2 rfl) ?_
    obtain ⟨hv13, hV⟩ := hV
    refine rd_calli (va_runV (As := [.int (6 : Int32)]) (rest := []) ⟨hx, hb, hml, hown, hts⟩ (c_X6_canDo l dC dI q6 qA qB qF qR qC qL qS qO qY qH qW qM cyI cyJ cyZ m_th m_o m_f m_r m_b m_a u_F u_R g_F g_R g_C g_L m_rl m_lf m_ov m_pl g_S g_O g_Y g_H m_st g_W m_rm m_fs g_M (6 : Int32) hm_o hv13) (cwV 1 hts gX6_canDoMany_X6_canDo rfl rfl rfl (by decide +kernel) ⟨Nat.le_of_ble_eq_true rfl, Nat.le_of_ble_eq_true rfl⟩) ⟨rd_blind, va_recv hK hP (ci := 4) (q0 := 0) rfl rfl, fun U hU hW => ⟨rfl, by rw [hU]; exact hP, va_K.moved hW.alike (hK.sub [0, 1, 2] rfl)⟩⟩ rfl rfl hl.1 rfl (lv_room (Nat.le_of_ble_eq_true rfl)) dX6_canDoMany_12 ⟨Nat.le_refl _, Nat.le_refl _⟩) ?_
    refine lv_if_eq (tgt := 21) hx hb dX6_canDoMany_15 (by decide) (fun c_14 => ?_) (fun c_14 => ?_)
    · rw [if_pos c_14] at hR
      have hV := hV.1 c_14
      exact Ks21_6  x1 ls (lv_sub hl [0, 1, 2] rfl) hV hR
    · rw [if_neg c_14] at hR
      have hV := hV.2 c_14
      refine lv_iinc (v := (x1 + (1 : Int32))) (lv' := [(1, .int (x1 + (1 : Int32))), (0, .ref q6), (2, .int (6 : Int32))]) hx hb dX6_canDoMany_18 hl (k := 1) rfl rfl (by decide) rfl (fun ls hl => ?_)
      exact Ks21_6  (x1 + (1 : Int32)) ls (lv_sub hl [1, 0, 2] rfl) hV hR
  have Ks21_5 : ∀  (x1 : Int32) (ls : Array Slot), lv_has ls 3 [(0, .ref q6), (1, .int x1), (2, .int (5 : Int32))] → vc_X6_canDoMany_s21_5  m_o m_f m_r g_R g_C m_rl m_lf m_ov x1 → cf_X6_canDoMany_s21_5  m_o m_f m_r g_R g_C m_rl m_lf m_ov x1 = R → W p l e (headSpec wsX6_canDoMany ({ frames := 2, cells := 0, slots := 0, locals := 45 })).room s m ([.ref q6] : List Value).toArray below meth c s.heap [] 0 0 (MQ below (rd_Q (some (.int R))) ([.ref q6] : List Value).toArray s 0 0 (fun _ => False)) (F0 m 21 ls []) := by
    intro  x1 ls hl hV hR
    unfold cf_X6_canDoMany_s21_5 at hR
    unfold vc_X6_canDoMany_s21_5 at hV
    refine lv_iinc (v := (6 : Int32)) (lv' := [(2, .int (6 : Int32)), (0, .ref q6), (1, .int x1)]) hx hb dX6_canDoMany_21 hl (k := 2) rfl (by decide +kernel) (by decide) rfl (fun ls hl => ?_)
    refine lv_goto (tgt := 4) hx hb dX6_canDoMany_24 (by decide) ?_
    exact Ks4_6  x1 ls (lv_sub hl [1, 2, 0] rfl) hV hR
  have Ks4_5 : ∀  (x1 : Int32) (ls : Array Slot), lv_has ls 3 [(0, .ref q6), (1, .int x1), (2, .int (5 : Int32))] → vc_X6_canDoMany_s4_5  m_o m_f m_r g_R g_C m_rl m_lf m_ov x1 → cf_X6_canDoMany_s4_5  m_o m_f m_r g_R g_C m_rl m_lf m_ov x1 = R → W p l e (headSpec wsX6_canDoMany ({ frames := 2, cells := 0, slots := 0, locals := 45 })).room s m ([.ref q6] : List Value).toArray below meth c s.heap [] 0 0 (MQ below (rd_Q (some (.int R))) ([.ref q6] : List Value).toArray s 0 0 (fun _ => False)) (F0 m 4 ls []) := by
    intro  x1 ls hl hV hR
    unfold cf_X6_canDoMany_s4_5 at hR
    unfold vc_X6_canDoMany_s4_5 at hV
    refine lv_iload_n hx hb dX6_canDoMany_4 rfl (lv_at hl 2 rfl) ?_
    refine lv_bipush (v := (50 : Int32)) hx hb dX6_canDoMany_5 (by decide +kernel) ?_
    refine lv_icmp_ge (tgt := 27) hx hb dX6_canDoMany_7 (by decide) (fun c_0 => absurd c_0 (by decide +kernel)) (fun _ => ?_)
    refine lv_aload_n hx hb dX6_canDoMany_10 rfl (lv_at hl 0 rfl) ?_
    refine lv_iload_n hx hb dX6_canDoMany_11 rfl (lv_at hl 2 rfl) ?_
    obtain ⟨hv11, hV⟩ := hV
    refine rd_calli (va_runV (As := [.int (5 : Int32)]) (rest := []) ⟨hx, hb, hml, hown, hts⟩ (c_X6_canDo l dC dI q6 qA qB qF qR qC qL qS qO qY qH qW qM cyI cyJ cyZ m_th m_o m_f m_r m_b m_a u_F u_R g_F g_R g_C g_L m_rl m_lf m_ov m_pl g_S g_O g_Y g_H m_st g_W m_rm m_fs g_M (5 : Int32) hm_o hv11) (cwV 1 hts gX6_canDoMany_X6_canDo rfl rfl rfl (by decide +kernel) ⟨Nat.le_of_ble_eq_true rfl, Nat.le_of_ble_eq_true rfl⟩) ⟨rd_blind, va_recv hK hP (ci := 4) (q0 := 0) rfl rfl, fun U hU hW => ⟨rfl, by rw [hU]; exact hP, va_K.moved hW.alike (hK.sub [0, 1, 2] rfl)⟩⟩ rfl rfl hl.1 rfl (lv_room (Nat.le_of_ble_eq_true rfl)) dX6_canDoMany_12 ⟨Nat.le_refl _, Nat.le_refl _⟩) ?_
    refine lv_if_eq (tgt := 21) hx hb dX6_canDoMany_15 (by decide) (fun c_12 => ?_) (fun c_12 => ?_)
    · rw [if_pos c_12] at hR
      have hV := hV.1 c_12
      exact Ks21_5  x1 ls (lv_sub hl [0, 1, 2] rfl) hV hR
    · rw [if_neg c_12] at hR
      have hV := hV.2 c_12
      refine lv_iinc (v := (x1 + (1 : Int32))) (lv' := [(1, .int (x1 + (1 : Int32))), (0, .ref q6), (2, .int (5 : Int32))]) hx hb dX6_canDoMany_18 hl (k := 1) rfl rfl (by decide) rfl (fun ls hl => ?_)
      exact Ks21_5  (x1 + (1 : Int32)) ls (lv_sub hl [1, 0, 2] rfl) hV hR
  have Ks21_4 : ∀  (x1 : Int32) (ls : Array Slot), lv_has ls 3 [(0, .ref q6), (1, .int x1), (2, .int (4 : Int32))] → vc_X6_canDoMany_s21_4  m_o m_f m_r g_R g_C m_rl m_lf m_ov x1 → cf_X6_canDoMany_s21_4  m_o m_f m_r g_R g_C m_rl m_lf m_ov x1 = R → W p l e (headSpec wsX6_canDoMany ({ frames := 2, cells := 0, slots := 0, locals := 45 })).room s m ([.ref q6] : List Value).toArray below meth c s.heap [] 0 0 (MQ below (rd_Q (some (.int R))) ([.ref q6] : List Value).toArray s 0 0 (fun _ => False)) (F0 m 21 ls []) := by
    intro  x1 ls hl hV hR
    unfold cf_X6_canDoMany_s21_4 at hR
    unfold vc_X6_canDoMany_s21_4 at hV
    refine lv_iinc (v := (5 : Int32)) (lv' := [(2, .int (5 : Int32)), (0, .ref q6), (1, .int x1)]) hx hb dX6_canDoMany_21 hl (k := 2) rfl (by decide +kernel) (by decide) rfl (fun ls hl => ?_)
    refine lv_goto (tgt := 4) hx hb dX6_canDoMany_24 (by decide) ?_
    exact Ks4_5  x1 ls (lv_sub hl [1, 2, 0] rfl) hV hR
  have Ks4_4 : ∀  (x1 : Int32) (ls : Array Slot), lv_has ls 3 [(0, .ref q6), (1, .int x1), (2, .int (4 : Int32))] → vc_X6_canDoMany_s4_4  m_o m_f m_r g_R g_C m_rl m_lf m_ov x1 → cf_X6_canDoMany_s4_4  m_o m_f m_r g_R g_C m_rl m_lf m_ov x1 = R → W p l e (headSpec wsX6_canDoMany ({ frames := 2, cells := 0, slots := 0, locals := 45 })).room s m ([.ref q6] : List Value).toArray below meth c s.heap [] 0 0 (MQ below (rd_Q (some (.int R))) ([.ref q6] : List Value).toArray s 0 0 (fun _ => False)) (F0 m 4 ls []) := by
    intro  x1 ls hl hV hR
    unfold cf_X6_canDoMany_s4_4 at hR
    unfold vc_X6_canDoMany_s4_4 at hV
    refine lv_iload_n hx hb dX6_canDoMany_4 rfl (lv_at hl 2 rfl) ?_
    refine lv_bipush (v := (50 : Int32)) hx hb dX6_canDoMany_5 (by decide +kernel) ?_
    refine lv_icmp_ge (tgt := 27) hx hb dX6_canDoMany_7 (by decide) (fun c_0 => absurd c_0 (by decide +kernel)) (fun _ => ?_)
    refine lv_aload_n hx hb dX6_canDoMany_10 rfl (lv_at hl 0 rfl) ?_
    refine lv_iload_n hx hb dX6_canDoMany_11 rfl (lv_at hl 2 rfl) ?_
    obtain ⟨hv9, hV⟩ := hV
    refine rd_calli (va_runV (As := [.int (4 : Int32)]) (rest := []) ⟨hx, hb, hml, hown, hts⟩ (c_X6_canDo l dC dI q6 qA qB qF qR qC qL qS qO qY qH qW qM cyI cyJ cyZ m_th m_o m_f m_r m_b m_a u_F u_R g_F g_R g_C g_L m_rl m_lf m_ov m_pl g_S g_O g_Y g_H m_st g_W m_rm m_fs g_M (4 : Int32) hm_o hv9) (cwV 1 hts gX6_canDoMany_X6_canDo rfl rfl rfl (by decide +kernel) ⟨Nat.le_of_ble_eq_true rfl, Nat.le_of_ble_eq_true rfl⟩) ⟨rd_blind, va_recv hK hP (ci := 4) (q0 := 0) rfl rfl, fun U hU hW => ⟨rfl, by rw [hU]; exact hP, va_K.moved hW.alike (hK.sub [0, 1, 2] rfl)⟩⟩ rfl rfl hl.1 rfl (lv_room (Nat.le_of_ble_eq_true rfl)) dX6_canDoMany_12 ⟨Nat.le_refl _, Nat.le_refl _⟩) ?_
    refine lv_if_eq (tgt := 21) hx hb dX6_canDoMany_15 (by decide) (fun c_10 => ?_) (fun c_10 => ?_)
    · rw [if_pos c_10] at hR
      have hV := hV.1 c_10
      exact Ks21_4  x1 ls (lv_sub hl [0, 1, 2] rfl) hV hR
    · rw [if_neg c_10] at hR
      have hV := hV.2 c_10
      refine lv_iinc (v := (x1 + (1 : Int32))) (lv' := [(1, .int (x1 + (1 : Int32))), (0, .ref q6), (2, .int (4 : Int32))]) hx hb dX6_canDoMany_18 hl (k := 1) rfl rfl (by decide) rfl (fun ls hl => ?_)
      exact Ks21_4  (x1 + (1 : Int32)) ls (lv_sub hl [1, 0, 2] rfl) hV hR
  have Ks21_3 : ∀  (x1 : Int32) (ls : Array Slot), lv_has ls 3 [(0, .ref q6), (1, .int x1), (2, .int (3 : Int32))] → vc_X6_canDoMany_s21_3  m_o m_f m_r g_R g_C m_rl m_lf m_ov x1 → cf_X6_canDoMany_s21_3  m_o m_f m_r g_R g_C m_rl m_lf m_ov x1 = R → W p l e (headSpec wsX6_canDoMany ({ frames := 2, cells := 0, slots := 0, locals := 45 })).room s m ([.ref q6] : List Value).toArray below meth c s.heap [] 0 0 (MQ below (rd_Q (some (.int R))) ([.ref q6] : List Value).toArray s 0 0 (fun _ => False)) (F0 m 21 ls []) := by
    intro  x1 ls hl hV hR
    unfold cf_X6_canDoMany_s21_3 at hR
    unfold vc_X6_canDoMany_s21_3 at hV
    refine lv_iinc (v := (4 : Int32)) (lv' := [(2, .int (4 : Int32)), (0, .ref q6), (1, .int x1)]) hx hb dX6_canDoMany_21 hl (k := 2) rfl (by decide +kernel) (by decide) rfl (fun ls hl => ?_)
    refine lv_goto (tgt := 4) hx hb dX6_canDoMany_24 (by decide) ?_
    exact Ks4_4  x1 ls (lv_sub hl [1, 2, 0] rfl) hV hR
  have Ks4_3 : ∀  (x1 : Int32) (ls : Array Slot), lv_has ls 3 [(0, .ref q6), (1, .int x1), (2, .int (3 : Int32))] → vc_X6_canDoMany_s4_3  m_o m_f m_r g_R g_C m_rl m_lf m_ov x1 → cf_X6_canDoMany_s4_3  m_o m_f m_r g_R g_C m_rl m_lf m_ov x1 = R → W p l e (headSpec wsX6_canDoMany ({ frames := 2, cells := 0, slots := 0, locals := 45 })).room s m ([.ref q6] : List Value).toArray below meth c s.heap [] 0 0 (MQ below (rd_Q (some (.int R))) ([.ref q6] : List Value).toArray s 0 0 (fun _ => False)) (F0 m 4 ls []) := by
    intro  x1 ls hl hV hR
    unfold cf_X6_canDoMany_s4_3 at hR
    unfold vc_X6_canDoMany_s4_3 at hV
    refine lv_iload_n hx hb dX6_canDoMany_4 rfl (lv_at hl 2 rfl) ?_
    refine lv_bipush (v := (50 : Int32)) hx hb dX6_canDoMany_5 (by decide +kernel) ?_
    refine lv_icmp_ge (tgt := 27) hx hb dX6_canDoMany_7 (by decide) (fun c_0 => absurd c_0 (by decide +kernel)) (fun _ => ?_)
    refine lv_aload_n hx hb dX6_canDoMany_10 rfl (lv_at hl 0 rfl) ?_
    refine lv_iload_n hx hb dX6_canDoMany_11 rfl (lv_at hl 2 rfl) ?_
    obtain ⟨hv7, hV⟩ := hV
    refine rd_calli (va_runV (As := [.int (3 : Int32)]) (rest := []) ⟨hx, hb, hml, hown, hts⟩ (c_X6_canDo l dC dI q6 qA qB qF qR qC qL qS qO qY qH qW qM cyI cyJ cyZ m_th m_o m_f m_r m_b m_a u_F u_R g_F g_R g_C g_L m_rl m_lf m_ov m_pl g_S g_O g_Y g_H m_st g_W m_rm m_fs g_M (3 : Int32) hm_o hv7) (cwV 1 hts gX6_canDoMany_X6_canDo rfl rfl rfl (by decide +kernel) ⟨Nat.le_of_ble_eq_true rfl, Nat.le_of_ble_eq_true rfl⟩) ⟨rd_blind, va_recv hK hP (ci := 4) (q0 := 0) rfl rfl, fun U hU hW => ⟨rfl, by rw [hU]; exact hP, va_K.moved hW.alike (hK.sub [0, 1, 2] rfl)⟩⟩ rfl rfl hl.1 rfl (lv_room (Nat.le_of_ble_eq_true rfl)) dX6_canDoMany_12 ⟨Nat.le_refl _, Nat.le_refl _⟩) ?_
    refine lv_if_eq (tgt := 21) hx hb dX6_canDoMany_15 (by decide) (fun c_8 => ?_) (fun c_8 => ?_)
    · rw [if_pos c_8] at hR
      have hV := hV.1 c_8
      exact Ks21_3  x1 ls (lv_sub hl [0, 1, 2] rfl) hV hR
    · rw [if_neg c_8] at hR
      have hV := hV.2 c_8
      refine lv_iinc (v := (x1 + (1 : Int32))) (lv' := [(1, .int (x1 + (1 : Int32))), (0, .ref q6), (2, .int (3 : Int32))]) hx hb dX6_canDoMany_18 hl (k := 1) rfl rfl (by decide) rfl (fun ls hl => ?_)
      exact Ks21_3  (x1 + (1 : Int32)) ls (lv_sub hl [1, 0, 2] rfl) hV hR
  have Ks21_2 : ∀  (x1 : Int32) (ls : Array Slot), lv_has ls 3 [(0, .ref q6), (1, .int x1), (2, .int (2 : Int32))] → vc_X6_canDoMany_s21_2  m_o m_f m_r g_R g_C m_rl m_lf m_ov x1 → cf_X6_canDoMany_s21_2  m_o m_f m_r g_R g_C m_rl m_lf m_ov x1 = R → W p l e (headSpec wsX6_canDoMany ({ frames := 2, cells := 0, slots := 0, locals := 45 })).room s m ([.ref q6] : List Value).toArray below meth c s.heap [] 0 0 (MQ below (rd_Q (some (.int R))) ([.ref q6] : List Value).toArray s 0 0 (fun _ => False)) (F0 m 21 ls []) := by
    intro  x1 ls hl hV hR
    unfold cf_X6_canDoMany_s21_2 at hR
    unfold vc_X6_canDoMany_s21_2 at hV
    refine lv_iinc (v := (3 : Int32)) (lv' := [(2, .int (3 : Int32)), (0, .ref q6), (1, .int x1)]) hx hb dX6_canDoMany_21 hl (k := 2) rfl (by decide +kernel) (by decide) rfl (fun ls hl => ?_)
    refine lv_goto (tgt := 4) hx hb dX6_canDoMany_24 (by decide) ?_
    exact Ks4_3  x1 ls (lv_sub hl [1, 2, 0] rfl) hV hR
  have Ks4_2 : ∀  (x1 : Int32) (ls : Array Slot), lv_has ls 3 [(0, .ref q6), (1, .int x1), (2, .int (2 : Int32))] → vc_X6_canDoMany_s4_2  m_o m_f m_r g_R g_C m_rl m_lf m_ov x1 → cf_X6_canDoMany_s4_2  m_o m_f m_r g_R g_C m_rl m_lf m_ov x1 = R → W p l e (headSpec wsX6_canDoMany ({ frames := 2, cells := 0, slots := 0, locals := 45 })).room s m ([.ref q6] : List Value).toArray below meth c s.heap [] 0 0 (MQ below (rd_Q (some (.int R))) ([.ref q6] : List Value).toArray s 0 0 (fun _ => False)) (F0 m 4 ls []) := by
    intro  x1 ls hl hV hR
    unfold cf_X6_canDoMany_s4_2 at hR
    unfold vc_X6_canDoMany_s4_2 at hV
    refine lv_iload_n hx hb dX6_canDoMany_4 rfl (lv_at hl 2 rfl) ?_
    refine lv_bipush (v := (50 : Int32)) hx hb dX6_canDoMany_5 (by decide +kernel) ?_
    refine lv_icmp_ge (tgt := 27) hx hb dX6_canDoMany_7 (by decide) (fun c_0 => absurd c_0 (by decide +kernel)) (fun _ => ?_)
    refine lv_aload_n hx hb dX6_canDoMany_10 rfl (lv_at hl 0 rfl) ?_
    refine lv_iload_n hx hb dX6_canDoMany_11 rfl (lv_at hl 2 rfl) ?_
    obtain ⟨hv5, hV⟩ := hV
    refine rd_calli (va_runV (As := [.int (2 : Int32)]) (rest := []) ⟨hx, hb, hml, hown, hts⟩ (c_X6_canDo l dC dI q6 qA qB qF qR qC qL qS qO qY qH qW qM cyI cyJ cyZ m_th m_o m_f m_r m_b m_a u_F u_R g_F g_R g_C g_L m_rl m_lf m_ov m_pl g_S g_O g_Y g_H m_st g_W m_rm m_fs g_M (2 : Int32) hm_o hv5) (cwV 1 hts gX6_canDoMany_X6_canDo rfl rfl rfl (by decide +kernel) ⟨Nat.le_of_ble_eq_true rfl, Nat.le_of_ble_eq_true rfl⟩) ⟨rd_blind, va_recv hK hP (ci := 4) (q0 := 0) rfl rfl, fun U hU hW => ⟨rfl, by rw [hU]; exact hP, va_K.moved hW.alike (hK.sub [0, 1, 2] rfl)⟩⟩ rfl rfl hl.1 rfl (lv_room (Nat.le_of_ble_eq_true rfl)) dX6_canDoMany_12 ⟨Nat.le_refl _, Nat.le_refl _⟩) ?_
    refine lv_if_eq (tgt := 21) hx hb dX6_canDoMany_15 (by decide) (fun c_6 => ?_) (fun c_6 => ?_)
    · rw [if_pos c_6] at hR
      have hV := hV.1 c_6
      exact Ks21_2  x1 ls (lv_sub hl [0, 1, 2] rfl) hV hR
    · rw [if_neg c_6] at hR
      have hV := hV.2 c_6
      refine lv_iinc (v := (x1 + (1 : Int32))) (lv' := [(1, .int (x1 + (1 : Int32))), (0, .ref q6), (2, .int (2 : Int32))]) hx hb dX6_canDoMany_18 hl (k := 1) rfl rfl (by decide) rfl (fun ls hl => ?_)
      exact Ks21_2  (x1 + (1 : Int32)) ls (lv_sub hl [1, 0, 2] rfl) hV hR
  have Ks21_1 : ∀  (x1 : Int32) (ls : Array Slot), lv_has ls 3 [(0, .ref q6), (1, .int x1), (2, .int (1 : Int32))] → vc_X6_canDoMany_s21_1  m_o m_f m_r g_R g_C m_rl m_lf m_ov x1 → cf_X6_canDoMany_s21_1  m_o m_f m_r g_R g_C m_rl m_lf m_ov x1 = R → W p l e (headSpec wsX6_canDoMany ({ frames := 2, cells := 0, slots := 0, locals := 45 })).room s m ([.ref q6] : List Value).toArray below meth c s.heap [] 0 0 (MQ below (rd_Q (some (.int R))) ([.ref q6] : List Value).toArray s 0 0 (fun _ => False)) (F0 m 21 ls []) := by
    intro  x1 ls hl hV hR
    unfold cf_X6_canDoMany_s21_1 at hR
    unfold vc_X6_canDoMany_s21_1 at hV
    refine lv_iinc (v := (2 : Int32)) (lv' := [(2, .int (2 : Int32)), (0, .ref q6), (1, .int x1)]) hx hb dX6_canDoMany_21 hl (k := 2) rfl (by decide +kernel) (by decide) rfl (fun ls hl => ?_)
    refine lv_goto (tgt := 4) hx hb dX6_canDoMany_24 (by decide) ?_
    exact Ks4_2  x1 ls (lv_sub hl [1, 2, 0] rfl) hV hR
  have Ks4_1 : ∀  (x1 : Int32) (ls : Array Slot), lv_has ls 3 [(0, .ref q6), (1, .int x1), (2, .int (1 : Int32))] → vc_X6_canDoMany_s4_1  m_o m_f m_r g_R g_C m_rl m_lf m_ov x1 → cf_X6_canDoMany_s4_1  m_o m_f m_r g_R g_C m_rl m_lf m_ov x1 = R → W p l e (headSpec wsX6_canDoMany ({ frames := 2, cells := 0, slots := 0, locals := 45 })).room s m ([.ref q6] : List Value).toArray below meth c s.heap [] 0 0 (MQ below (rd_Q (some (.int R))) ([.ref q6] : List Value).toArray s 0 0 (fun _ => False)) (F0 m 4 ls []) := by
    intro  x1 ls hl hV hR
    unfold cf_X6_canDoMany_s4_1 at hR
    unfold vc_X6_canDoMany_s4_1 at hV
    refine lv_iload_n hx hb dX6_canDoMany_4 rfl (lv_at hl 2 rfl) ?_
    refine lv_bipush (v := (50 : Int32)) hx hb dX6_canDoMany_5 (by decide +kernel) ?_
    refine lv_icmp_ge (tgt := 27) hx hb dX6_canDoMany_7 (by decide) (fun c_0 => absurd c_0 (by decide +kernel)) (fun _ => ?_)
    refine lv_aload_n hx hb dX6_canDoMany_10 rfl (lv_at hl 0 rfl) ?_
    refine lv_iload_n hx hb dX6_canDoMany_11 rfl (lv_at hl 2 rfl) ?_
    obtain ⟨hv3, hV⟩ := hV
    refine rd_calli (va_runV (As := [.int (1 : Int32)]) (rest := []) ⟨hx, hb, hml, hown, hts⟩ (c_X6_canDo l dC dI q6 qA qB qF qR qC qL qS qO qY qH qW qM cyI cyJ cyZ m_th m_o m_f m_r m_b m_a u_F u_R g_F g_R g_C g_L m_rl m_lf m_ov m_pl g_S g_O g_Y g_H m_st g_W m_rm m_fs g_M (1 : Int32) hm_o hv3) (cwV 1 hts gX6_canDoMany_X6_canDo rfl rfl rfl (by decide +kernel) ⟨Nat.le_of_ble_eq_true rfl, Nat.le_of_ble_eq_true rfl⟩) ⟨rd_blind, va_recv hK hP (ci := 4) (q0 := 0) rfl rfl, fun U hU hW => ⟨rfl, by rw [hU]; exact hP, va_K.moved hW.alike (hK.sub [0, 1, 2] rfl)⟩⟩ rfl rfl hl.1 rfl (lv_room (Nat.le_of_ble_eq_true rfl)) dX6_canDoMany_12 ⟨Nat.le_refl _, Nat.le_refl _⟩) ?_
    refine lv_if_eq (tgt := 21) hx hb dX6_canDoMany_15 (by decide) (fun c_4 => ?_) (fun c_4 => ?_)
    · rw [if_pos c_4] at hR
      have hV := hV.1 c_4
      exact Ks21_1  x1 ls (lv_sub hl [0, 1, 2] rfl) hV hR
    · rw [if_neg c_4] at hR
      have hV := hV.2 c_4
      refine lv_iinc (v := (x1 + (1 : Int32))) (lv' := [(1, .int (x1 + (1 : Int32))), (0, .ref q6), (2, .int (1 : Int32))]) hx hb dX6_canDoMany_18 hl (k := 1) rfl rfl (by decide) rfl (fun ls hl => ?_)
      exact Ks21_1  (x1 + (1 : Int32)) ls (lv_sub hl [1, 0, 2] rfl) hV hR
  have Ks21_0 : ∀  (x1 : Int32) (ls : Array Slot), lv_has ls 3 [(0, .ref q6), (1, .int x1), (2, .int (0 : Int32))] → vc_X6_canDoMany_s21_0  m_o m_f m_r g_R g_C m_rl m_lf m_ov x1 → cf_X6_canDoMany_s21_0  m_o m_f m_r g_R g_C m_rl m_lf m_ov x1 = R → W p l e (headSpec wsX6_canDoMany ({ frames := 2, cells := 0, slots := 0, locals := 45 })).room s m ([.ref q6] : List Value).toArray below meth c s.heap [] 0 0 (MQ below (rd_Q (some (.int R))) ([.ref q6] : List Value).toArray s 0 0 (fun _ => False)) (F0 m 21 ls []) := by
    intro  x1 ls hl hV hR
    unfold cf_X6_canDoMany_s21_0 at hR
    unfold vc_X6_canDoMany_s21_0 at hV
    refine lv_iinc (v := (1 : Int32)) (lv' := [(2, .int (1 : Int32)), (0, .ref q6), (1, .int x1)]) hx hb dX6_canDoMany_21 hl (k := 2) rfl (by decide +kernel) (by decide) rfl (fun ls hl => ?_)
    refine lv_goto (tgt := 4) hx hb dX6_canDoMany_24 (by decide) ?_
    exact Ks4_1  x1 ls (lv_sub hl [1, 2, 0] rfl) hV hR
  have Ks4_0 : ∀  (x1 : Int32) (ls : Array Slot), lv_has ls 3 [(0, .ref q6), (1, .int x1), (2, .int (0 : Int32))] → vc_X6_canDoMany_s4_0  m_o m_f m_r g_R g_C m_rl m_lf m_ov x1 → cf_X6_canDoMany_s4_0  m_o m_f m_r g_R g_C m_rl m_lf m_ov x1 = R → W p l e (headSpec wsX6_canDoMany ({ frames := 2, cells := 0, slots := 0, locals := 45 })).room s m ([.ref q6] : List Value).toArray below meth c s.heap [] 0 0 (MQ below (rd_Q (some (.int R))) ([.ref q6] : List Value).toArray s 0 0 (fun _ => False)) (F0 m 4 ls []) := by
    intro  x1 ls hl hV hR
    unfold cf_X6_canDoMany_s4_0 at hR
    unfold vc_X6_canDoMany_s4_0 at hV
    refine lv_iload_n hx hb dX6_canDoMany_4 rfl (lv_at hl 2 rfl) ?_
    refine lv_bipush (v := (50 : Int32)) hx hb dX6_canDoMany_5 (by decide +kernel) ?_
    refine lv_icmp_ge (tgt := 27) hx hb dX6_canDoMany_7 (by decide) (fun c_0 => absurd c_0 (by decide +kernel)) (fun _ => ?_)
    refine lv_aload_n hx hb dX6_canDoMany_10 rfl (lv_at hl 0 rfl) ?_
    refine lv_iload_n hx hb dX6_canDoMany_11 rfl (lv_at hl 2 rfl) ?_
    obtain ⟨hv1, hV⟩ := hV
    refine rd_calli (va_runV (As := [.int (0 : Int32)]) (rest := []) ⟨hx, hb, hml, hown, hts⟩ (c_X6_canDo l dC dI q6 qA qB qF qR qC qL qS qO qY qH qW qM cyI cyJ cyZ m_th m_o m_f m_r m_b m_a u_F u_R g_F g_R g_C g_L m_rl m_lf m_ov m_pl g_S g_O g_Y g_H m_st g_W m_rm m_fs g_M (0 : Int32) hm_o hv1) (cwV 1 hts gX6_canDoMany_X6_canDo rfl rfl rfl (by decide +kernel) ⟨Nat.le_of_ble_eq_true rfl, Nat.le_of_ble_eq_true rfl⟩) ⟨rd_blind, va_recv hK hP (ci := 4) (q0 := 0) rfl rfl, fun U hU hW => ⟨rfl, by rw [hU]; exact hP, va_K.moved hW.alike (hK.sub [0, 1, 2] rfl)⟩⟩ rfl rfl hl.1 rfl (lv_room (Nat.le_of_ble_eq_true rfl)) dX6_canDoMany_12 ⟨Nat.le_refl _, Nat.le_refl _⟩) ?_
    refine lv_if_eq (tgt := 21) hx hb dX6_canDoMany_15 (by decide) (fun c_2 => ?_) (fun c_2 => ?_)
    · rw [if_pos c_2] at hR
      have hV := hV.1 c_2
      exact Ks21_0  x1 ls (lv_sub hl [0, 1, 2] rfl) hV hR
    · rw [if_neg c_2] at hR
      have hV := hV.2 c_2
      refine lv_iinc (v := (x1 + (1 : Int32))) (lv' := [(1, .int (x1 + (1 : Int32))), (0, .ref q6), (2, .int (0 : Int32))]) hx hb dX6_canDoMany_18 hl (k := 1) rfl rfl (by decide) rfl (fun ls hl => ?_)
      exact Ks21_0  (x1 + (1 : Int32)) ls (lv_sub hl [1, 0, 2] rfl) hV hR
  have hl := lv_entry ([.ref q6]) (n := 3) (Nat.le_of_ble_eq_true rfl)
  rw [lg_entry_eq]
  generalize (lg_sl ([.ref q6]) ++ List.replicate (3 - (lg_sl ([.ref q6])).length) Slot.unset).toArray = ls at hl ⊢
  have hl : lv_has ls 3 [(0, .ref q6)] := hl
  unfold cf_X6_canDoMany at hR
  unfold vc_X6_canDoMany at hV
  refine lv_iconst (v := (0 : Int32)) hx hb dX6_canDoMany_0 (by decide +kernel) ?_
  refine lv_istore_n (lv' := [(1, .int (0 : Int32)), (0, .ref q6)]) hx hb dX6_canDoMany_1 rfl hl (by decide) rfl (fun ls hl => ?_)
  refine lv_iconst (v := (0 : Int32)) hx hb dX6_canDoMany_2 (by decide +kernel) ?_
  refine lv_istore_n (lv' := [(2, .int (0 : Int32)), (1, .int (0 : Int32)), (0, .ref q6)]) hx hb dX6_canDoMany_3 rfl hl (by decide) rfl (fun ls hl => ?_)
  exact Ks4_0  (0 : Int32) ls (lv_sub hl [2, 1, 0] rfl) hV hR
def cf_X6_act_s18  (m_th : Int32) (g_W : Nat → Int32) (m_rm : Int32) (x1 : Int32) (y0 : Int32) : Int32 × Int32 :=
  (if (cf_X6_fails m_th y0).2 = 0 then ((cf_X6_fails m_th y0).1, (g_W (x1).toNatClampNeg)) else ((cf_X6_fails m_th y0).1, (0 : Int32)))
def vc_X6_act_s18  (m_th : Int32) (g_W : Nat → Int32) (m_rm : Int32) (x1 : Int32) (y0 : Int32) : Prop :=
  (((cf_X6_fails m_th y0).2 = 0 → (vp_in x1 20000 ∧ True)) ∧ (¬ (cf_X6_fails m_th y0).2 = 0 → True))
def cf_X6_act_s13  (m_th : Int32) (g_W : Nat → Int32) (m_rm : Int32) (x1 : Int32) : Int32 × Int32 :=
  cf_X6_act_s18  m_th g_W m_rm x1 (1 : Int32)
def vc_X6_act_s13  (m_th : Int32) (g_W : Nat → Int32) (m_rm : Int32) (x1 : Int32) : Prop :=
  vc_X6_act_s18  m_th g_W m_rm x1 (1 : Int32)
def cf_X6_act (m_th : Int32) (g_W : Nat → Int32) (m_rm : Int32) (a0 : Int32) : Int32 × Int32 :=
  (if a0 < 0 then cf_X6_act_s13  m_th g_W m_rm a0 else (if a0 < m_rm then cf_X6_act_s18  m_th g_W m_rm a0 (0 : Int32) else cf_X6_act_s13  m_th g_W m_rm a0))
def vc_X6_act (m_th : Int32) (g_W : Nat → Int32) (m_rm : Int32) (a0 : Int32) : Prop :=
  ((a0 < 0 → vc_X6_act_s13  m_th g_W m_rm a0) ∧ (¬ a0 < 0 → ((a0 < m_rm → vc_X6_act_s18  m_th g_W m_rm a0 (0 : Int32)) ∧ (¬ a0 < m_rm → vc_X6_act_s13  m_th g_W m_rm a0))))
set_option maxHeartbeats 4000000 in
set_option maxRecDepth 100000 in
theorem c_X6_act (l : Launch) (dC : Nat → ClassId) (dI : Nat → Nat → Nat) (q6 qA qB qF qR qC qL qS qO qY qH qW qM : Nat) (cyI cyJ cyZ : ClassId) (m_th : Int32) (m_o : Int32) (m_f : Int32) (m_r : Int32) (m_b : Int32) (m_a : Int32) (u_F : Nat → Int32) (u_R : Nat → Int32) (g_F : Nat → Int32) (g_R : Nat → Int32) (g_C : Nat → Int32) (g_L : Nat → Int32) (m_rl : Int32) (m_lf : Int32) (m_ov : Int32) (m_pl : Int64) (g_S : Nat → Int64) (g_O : Nat → Int32) (g_Y : Nat → Int32) (g_H : Nat → Int32) (m_st : Int32) (g_W : Nat → Int32) (m_rm : Int32) (m_fs : Int32) (g_M : Nat → Int32) (sz : Nat) (a0 : Int32)  (hV : vc_X6_act m_th g_W m_rm a0) : Met l yX6_act wsX6_act ({ frames := 1, cells := 0, slots := 0, locals := 21 }) (mu_P [.ref q6, .int a0] sz (dC, dI) kcl (mo_W q6 qA qB qF qR qC qL qS qO qY qH qW qM cyI cyJ cyZ m_th m_o m_f m_r m_b m_a u_F u_R g_F g_R g_C g_L m_rl m_lf m_ov m_pl g_S g_O g_Y g_H m_st g_W m_rm m_fs g_M) [(cyI, .int), (cyJ, .long), (cyZ, .boolean)]) (mu_Q (some (.int ((cf_X6_act m_th g_W m_rm a0).2))) (dC, dI) kcl (mo_W q6 qA qB qF qR qC qL qS qO qY qH qW qM cyI cyJ cyZ ((cf_X6_act m_th g_W m_rm a0).1) m_o m_f m_r m_b m_a u_F u_R g_F g_R g_C g_L m_rl m_lf m_ov m_pl g_S g_O g_Y g_H m_st g_W m_rm m_fs g_M) (va_A (mo_W q6 qA qB qF qR qC qL qS qO qY qH qW qM cyI cyJ cyZ m_th m_o m_f m_r m_b m_a u_F u_R g_F g_R g_C g_L m_rl m_lf m_ov m_pl g_S g_O g_Y g_H m_st g_W m_rm m_fs g_M) sz)) 0 0 (va_A (mo_W q6 qA qB qF qR qC qL qS qO qY qH qW qM cyI cyJ cyZ m_th m_o m_f m_r m_b m_a u_F u_R g_F g_R g_C g_L m_rl m_lf m_ov m_pl g_S g_O g_Y g_H m_st g_W m_rm m_fs g_M) sz) := by
  refine Met.ofW (cc := cX6_act) (maxL := 2) (ret := (some .int)) (by decide) rfl ?_
  intro p e s m args below meth c s₁ B hml hv
  obtain ⟨rfl, hsz, hP, hK, hD0⟩ := hv
  have hx := B.exec
  have hb := B.bytes
  have hr := B.returns
  have hts := atoms_spec (ws := wsX6_act) B.pre
  have hown : s.vm.findClass RX6 = some m.cls := findClass_of_methodNamed B.named
  have hlocks := B.notSynchronized
  subst hsz
  have hD := hD0.self (sz := s.heap.size)
  generalize hAe : va_A (mo_W q6 qA qB qF qR qC qL qS qO qY qH qW qM cyI cyJ cyZ m_th m_o m_f m_r m_b m_a u_F u_R g_F g_R g_C g_L m_rl m_lf m_ov m_pl g_S g_O g_Y g_H m_st g_W m_rm m_fs g_M) s.heap.size = A at hD ⊢
  have hA : ∀ q : Nat, s.heap.size ≤ q → A q := fun q h => by rw [← hAe]; exact Or.inr h
  have hP : va_P (dC, dI) kcl (mo_W q6 qA qB qF qR qC qL qS qO qY qH qW qM cyI cyJ cyZ m_th m_o m_f m_r m_b m_a u_F u_R g_F g_R g_C g_L m_rl m_lf m_ov m_pl g_S g_O g_Y g_H m_st g_W m_rm m_fs g_M) s.heap := hP
  have h0_ : (Cond.fieldLink RX6 55 "ColourTrierModel" "row" "[I").before _ s = true := hts _ (by decide +kernel)
  have h1_ : ∀ w ∈ u_ws RX6 TX6 25, w ∈ wsX6_act := fun w h => List.mem_cons_of_mem _ (List.mem_append_right _ h)
  have h2_ : (Cond.fieldLink RX6 139 "ColourTrierModel" "rowMany" "I").before _ s = true := hts _ (by decide +kernel)
  generalize hR : (cf_X6_act m_th g_W m_rm a0) = R
  have Ks18 : ∀  (m_th : Int32) (x1 : Int32) (y0 : Int32) (H : Heap) (locs : List Loc) (ls : Array Slot), va_P (dC, dI) kcl (mo_W q6 qA qB qF qR qC qL qS qO qY qH qW qM cyI cyJ cyZ m_th m_o m_f m_r m_b m_a u_F u_R g_F g_R g_C g_L m_rl m_lf m_ov m_pl g_S g_O g_Y g_H m_st g_W m_rm m_fs g_M) H → va_D A (mo_W q6 qA qB qF qR qC qL qS qO qY qH qW qM cyI cyJ cyZ m_th m_o m_f m_r m_b m_a u_F u_R g_F g_R g_C g_L m_rl m_lf m_ov m_pl g_S g_O g_Y g_H m_st g_W m_rm m_fs g_M) → va_S A s.heap H locs → lv_has ls 2 [(0, .ref q6), (1, .int x1)] → vc_X6_act_s18  m_th g_W m_rm x1 y0 → cf_X6_act_s18  m_th g_W m_rm x1 y0 = R → W p l e (headSpec wsX6_act ({ frames := 1, cells := 0, slots := 0, locals := 21 })).room s m ([.ref q6, .int a0] : List Value).toArray below meth c H locs 0 0 (MQ below (mu_Q (some (.int R.2)) (dC, dI) kcl (mo_W q6 qA qB qF qR qC qL qS qO qY qH qW qM cyI cyJ cyZ R.1 m_o m_f m_r m_b m_a u_F u_R g_F g_R g_C g_L m_rl m_lf m_ov m_pl g_S g_O g_Y g_H m_st g_W m_rm m_fs g_M) A) ([.ref q6, .int a0] : List Value).toArray s 0 0 A) (F0 m 18 ls [.int y0, .ref q6]) := by
    intro  m_th x1 y0 H locs ls hP hD hS hl hV hR
    unfold cf_X6_act_s18 at hR
    unfold vc_X6_act_s18 at hV
    refine mu_call (ws' := (mo_W q6 qA qB qF qR qC qL qS qO qY qH qW qM cyI cyJ cyZ ((cf_X6_fails m_th y0).1) m_o m_f m_r m_b m_a u_F u_R g_F g_R g_C g_L m_rl m_lf m_ov m_pl g_S g_O g_Y g_H m_st g_W m_rm m_fs g_M)) (wr := []) (va_runV (As := [.int y0]) (rest := []) ⟨hx, hb, hml, hown, hts⟩ (c_X6_fails l dC dI q6 qA qB qF qR qC qL qS qO qY qH qW qM cyI cyJ cyZ m_th m_o m_f m_r m_b m_a u_F u_R g_F g_R g_C g_L m_rl m_lf m_ov m_pl g_S g_O g_Y g_H m_st g_W m_rm m_fs g_M H.size y0  ) (cwV 1 hts gX6_act_X6_fails rfl rfl rfl (by decide +kernel) ⟨Nat.le_of_ble_eq_true rfl, Nat.le_of_ble_eq_true rfl⟩) ⟨mu_blind, va_recv hK hP (ci := 4) (q0 := 0) rfl rfl, fun U hU hW => ⟨rfl, by rw [hU], by rw [hU]; exact hP, va_K.moved hW.alike (hK.sub [0, 1, 2] rfl), hD.weaken (fun _ _ _ _ => trivial)⟩⟩ rfl rfl hl.1 rfl (lv_room (Nat.le_of_ble_eq_true rfl)) dX6_act_18 ⟨Nat.le_refl _, Nat.le_refl _⟩) hP hD hS hA [0, 1, 2, 3, 4, 5, 6, 7, 8, 9, 10, 11, 12] [] [0, 1, 2, 3, 4, 5, 6, 7, 8, 9, 10, 11, 12] rfl rfl (by decide) (by decide) (by decide) rfl (by decide) rfl (fun H locs hP hD hS => ?_)
    refine W.eq (g2 := F0 m 21 ls [.int ((cf_X6_fails m_th y0).2)]) rfl ?_
    refine lv_if_eq (tgt := 26) hx hb dX6_act_21 (by decide) (fun c_2 => ?_) (fun c_2 => ?_)
    · rw [if_pos c_2] at hR
      have hV := hV.1 c_2
      refine lv_aload_n hx hb dX6_act_26 rfl (lv_at hl 0 rfl) ?_
      refine va_get (D := (dC, dI)) (ci := 4) (v := .ref qW) (C := RX6) (T := TX6) (N := 25) hx hb hts h1_ hown hK hP 0 rfl rfl 21 (by decide) h0_ (fun _ h9 => h9) rfl dX6_act_27 ?_
      refine lv_iload_n hx hb dX6_act_30 rfl (lv_at hl 1 rfl) ?_
      obtain ⟨hi3, hV⟩ := hV
      refine va_iald hx hb hK hP 11 0 rfl rfl hi3 dX6_act_31 ?_
      rw [← hR]
      exact W.iret (v := (g_W (x1).toNatClampNeg)) hx hb hr (fun t ht _ => ⟨rfl, by rw [ht]; exact hP, hS.F ht⟩) hS.2.2 dX6_act_32
    · rw [if_neg c_2] at hR
      refine lv_iconst (v := (0 : Int32)) hx hb dX6_act_24 (by decide +kernel) ?_
      rw [← hR]
      exact W.iret (v := (0 : Int32)) hx hb hr (fun t ht _ => ⟨rfl, by rw [ht]; exact hP, hS.F ht⟩) hS.2.2 dX6_act_25
  have Ks13 : ∀  (m_th : Int32) (x1 : Int32) (H : Heap) (locs : List Loc) (ls : Array Slot), va_P (dC, dI) kcl (mo_W q6 qA qB qF qR qC qL qS qO qY qH qW qM cyI cyJ cyZ m_th m_o m_f m_r m_b m_a u_F u_R g_F g_R g_C g_L m_rl m_lf m_ov m_pl g_S g_O g_Y g_H m_st g_W m_rm m_fs g_M) H → va_D A (mo_W q6 qA qB qF qR qC qL qS qO qY qH qW qM cyI cyJ cyZ m_th m_o m_f m_r m_b m_a u_F u_R g_F g_R g_C g_L m_rl m_lf m_ov m_pl g_S g_O g_Y g_H m_st g_W m_rm m_fs g_M) → va_S A s.heap H locs → lv_has ls 2 [(0, .ref q6), (1, .int x1)] → vc_X6_act_s13  m_th g_W m_rm x1 → cf_X6_act_s13  m_th g_W m_rm x1 = R → W p l e (headSpec wsX6_act ({ frames := 1, cells := 0, slots := 0, locals := 21 })).room s m ([.ref q6, .int a0] : List Value).toArray below meth c H locs 0 0 (MQ below (mu_Q (some (.int R.2)) (dC, dI) kcl (mo_W q6 qA qB qF qR qC qL qS qO qY qH qW qM cyI cyJ cyZ R.1 m_o m_f m_r m_b m_a u_F u_R g_F g_R g_C g_L m_rl m_lf m_ov m_pl g_S g_O g_Y g_H m_st g_W m_rm m_fs g_M) A) ([.ref q6, .int a0] : List Value).toArray s 0 0 A) (F0 m 13 ls [.ref q6]) := by
    intro  m_th x1 H locs ls hP hD hS hl hV hR
    unfold cf_X6_act_s13 at hR
    unfold vc_X6_act_s13 at hV
    refine lv_iconst (v := (1 : Int32)) hx hb dX6_act_13 (by decide +kernel) ?_
    refine lv_goto (tgt := 18) hx hb dX6_act_14 (by decide) ?_
    exact Ks18  m_th x1 (1 : Int32) H locs ls hP hD hS (lv_sub hl [0, 1] rfl) hV hR
  have hl := lv_entry ([.ref q6, .int a0]) (n := 2) (Nat.le_of_ble_eq_true rfl)
  rw [lg_entry_eq]
  generalize (lg_sl ([.ref q6, .int a0]) ++ List.replicate (2 - (lg_sl ([.ref q6, .int a0])).length) Slot.unset).toArray = ls at hl ⊢
  have hl : lv_has ls 2 [(0, .ref q6), (1, .int a0)] := hl
  unfold cf_X6_act at hR
  unfold vc_X6_act at hV
  refine mu_start (A := A) (fun H locs hP hS => ?_) hP
  refine lv_aload_n hx hb dX6_act_0 rfl (lv_at hl 0 rfl) ?_
  refine lv_iload_n hx hb dX6_act_1 rfl (lv_at hl 1 rfl) ?_
  refine lv_if_lt (tgt := 13) hx hb dX6_act_2 (by decide) (fun c_1 => ?_) (fun c_1 => ?_)
  · rw [if_pos c_1] at hR
    have hV := hV.1 c_1
    exact Ks13  m_th a0 H locs ls hP hD hS (lv_sub hl [0, 1] rfl) hV hR
  · rw [if_neg c_1] at hR
    have hV := hV.2 c_1
    refine lv_iload_n hx hb dX6_act_5 rfl (lv_at hl 1 rfl) ?_
    refine lv_aload_n hx hb dX6_act_6 rfl (lv_at hl 0 rfl) ?_
    refine va_get (D := (dC, dI)) (ci := 4) (v := .int m_rm) (C := RX6) (T := TX6) (N := 25) hx hb hts h1_ hown hK hP 0 rfl rfl 22 (by decide) h2_ (fun _ h9 => h9) rfl dX6_act_7 ?_
    refine lv_icmp_lt (tgt := 17) hx hb dX6_act_10 (by decide) (fun c_4 => ?_) (fun c_4 => ?_)
    · rw [if_pos c_4] at hR
      have hV := hV.1 c_4
      refine lv_iconst (v := (0 : Int32)) hx hb dX6_act_17 (by decide +kernel) ?_
      exact Ks18  m_th a0 (0 : Int32) H locs ls hP hD hS (lv_sub hl [0, 1] rfl) hV hR
    · rw [if_neg c_4] at hR
      have hV := hV.2 c_4
      exact Ks13  m_th a0 H locs ls hP hD hS (lv_sub hl [0, 1] rfl) hV hR
def cf_X6_size_s113  (m_th : Int32) (m_o : Int32) (m_f : Int32) (m_r : Int32) (m_a : Int32) (u_F : Nat → Int32) (u_R : Nat → Int32) (g_F : Nat → Int32) (g_R : Nat → Int32) (g_C : Nat → Int32) (g_L : Nat → Int32) (m_rl : Int32) (m_lf : Int32) (m_ov : Int32) (m_pl : Int64) (y0 : Int64) : Int32 × Int32 × Int32 × Int32 × (Nat → Int32) × (Nat → Int32) × (Nat → Int32) × (Nat → Int32) × (Nat → Int32) × (Nat → Int32) × Int32 × Int32 × Int32 × Int64 :=
  (m_th, m_o, m_f, m_r, u_F, u_R, g_F, g_R, g_C, g_L, m_rl, m_lf, m_ov, y0)
def cf_X6_size_s88_3  (m_th : Int32) (m_o : Int32) (m_f : Int32) (m_r : Int32) (m_a : Int32) (u_F : Nat → Int32) (u_R : Nat → Int32) (g_F : Nat → Int32) (g_R : Nat → Int32) (g_C : Nat → Int32) (g_L : Nat → Int32) (m_rl : Int32) (m_lf : Int32) (m_ov : Int32) (m_pl : Int64)  : Int32 × Int32 × Int32 × Int32 × (Nat → Int32) × (Nat → Int32) × (Nat → Int32) × (Nat → Int32) × (Nat → Int32) × (Nat → Int32) × Int32 × Int32 × Int32 × Int64 :=
  cf_X6_size_s113  m_th m_o m_f m_r m_a u_F u_R ((cf_X6_first m_a u_F u_R g_F g_R g_C g_L m_rl m_lf m_ov ).1) ((cf_X6_first m_a u_F u_R g_F g_R g_C g_L m_rl m_lf m_ov ).2.1) ((cf_X6_first m_a u_F u_R g_F g_R g_C g_L m_rl m_lf m_ov ).2.2.1) ((cf_X6_first m_a u_F u_R g_F g_R g_C g_L m_rl m_lf m_ov ).2.2.2.1) ((cf_X6_first m_a u_F u_R g_F g_R g_C g_L m_rl m_lf m_ov ).2.2.2.2.1) ((cf_X6_first m_a u_F u_R g_F g_R g_C g_L m_rl m_lf m_ov ).2.2.2.2.2.1) ((cf_X6_first m_a u_F u_R g_F g_R g_C g_L m_rl m_lf m_ov ).2.2.2.2.2.2.1) m_pl ((cf_X6_first m_a u_F u_R g_F g_R g_C g_L m_rl m_lf m_ov ).2.2.2.2.2.2.2)
def cf_X6_size_s88_2  (m_th : Int32) (m_o : Int32) (m_f : Int32) (m_r : Int32) (m_a : Int32) (u_F : Nat → Int32) (u_R : Nat → Int32) (g_F : Nat → Int32) (g_R : Nat → Int32) (g_C : Nat → Int32) (g_L : Nat → Int32) (m_rl : Int32) (m_lf : Int32) (m_ov : Int32) (m_pl : Int64)  : Int32 × Int32 × Int32 × Int32 × (Nat → Int32) × (Nat → Int32) × (Nat → Int32) × (Nat → Int32) × (Nat → Int32) × (Nat → Int32) × Int32 × Int32 × Int32 × Int64 :=
  cf_X6_size_s88_3  m_th m_o m_f m_r m_a u_F (upd u_R ((2 : Int32)).toNatClampNeg (-1 : Int32)) g_F g_R g_C g_L m_rl m_lf m_ov m_pl 
def cf_X6_size_s88_1  (m_th : Int32) (m_o : Int32) (m_f : Int32) (m_r : Int32) (m_a : Int32) (u_F : Nat → Int32) (u_R : Nat → Int32) (g_F : Nat → Int32) (g_R : Nat → Int32) (g_C : Nat → Int32) (g_L : Nat → Int32) (m_rl : Int32) (m_lf : Int32) (m_ov : Int32) (m_pl : Int64)  : Int32 × Int32 × Int32 × Int32 × (Nat → Int32) × (Nat → Int32) × (Nat → Int32) × (Nat → Int32) × (Nat → Int32) × (Nat → Int32) × Int32 × Int32 × Int32 × Int64 :=
  cf_X6_size_s88_2  m_th m_o m_f m_r m_a u_F (upd u_R ((1 : Int32)).toNatClampNeg (-1 : Int32)) g_F g_R g_C g_L m_rl m_lf m_ov m_pl 
def cf_X6_size_s88_0  (m_th : Int32) (m_o : Int32) (m_f : Int32) (m_r : Int32) (m_a : Int32) (u_F : Nat → Int32) (u_R : Nat → Int32) (g_F : Nat → Int32) (g_R : Nat → Int32) (g_C : Nat → Int32) (g_L : Nat → Int32) (m_rl : Int32) (m_lf : Int32) (m_ov : Int32) (m_pl : Int64)  : Int32 × Int32 × Int32 × Int32 × (Nat → Int32) × (Nat → Int32) × (Nat → Int32) × (Nat → Int32) × (Nat → Int32) × (Nat → Int32) × Int32 × Int32 × Int32 × Int64 :=
  cf_X6_size_s88_1  m_th m_o m_f m_r m_a u_F (upd u_R ((0 : Int32)).toNatClampNeg (-1 : Int32)) g_F g_R g_C g_L m_rl m_lf m_ov m_pl 
def cf_X6_size_s61_8  (m_th : Int32) (m_o : Int32) (m_f : Int32) (m_r : Int32) (m_a : Int32) (u_F : Nat → Int32) (u_R : Nat → Int32) (g_F : Nat → Int32) (g_R : Nat → Int32) (g_C : Nat → Int32) (g_L : Nat → Int32) (m_rl : Int32) (m_lf : Int32) (m_ov : Int32) (m_pl : Int64)  : Int32 × Int32 × Int32 × Int32 × (Nat → Int32) × (Nat → Int32) × (Nat → Int32) × (Nat → Int32) × (Nat → Int32) × (Nat → Int32) × Int32 × Int32 × Int32 × Int64 :=
  cf_X6_size_s88_0  m_th m_o m_f m_r m_a u_F u_R g_F g_R g_C g_L m_rl m_lf m_ov m_pl 
def cf_X6_size_s61_7  (m_th : Int32) (m_o : Int32) (m_f : Int32) (m_r : Int32) (m_a : Int32) (u_F : Nat → Int32) (u_R : Nat → Int32) (g_F : Nat → Int32) (g_R : Nat → Int32) (g_C : Nat → Int32) (g_L : Nat → Int32) (m_rl : Int32) (m_lf : Int32) (m_ov : Int32) (m_pl : Int64)  : Int32 × Int32 × Int32 × Int32 × (Nat → Int32) × (Nat → Int32) × (Nat → Int32) × (Nat → Int32) × (Nat → Int32) × (Nat → Int32) × Int32 × Int32 × Int32 × Int64 :=
  cf_X6_size_s61_8  m_th m_o m_f m_r m_a (upd u_F ((7 : Int32)).toNatClampNeg (-1 : Int32)) u_R g_F g_R g_C g_L m_rl m_lf m_ov m_pl 
def cf_X6_size_s61_6  (m_th : Int32) (m_o : Int32) (m_f : Int32) (m_r : Int32) (m_a : Int32) (u_F : Nat → Int32) (u_R : Nat → Int32) (g_F : Nat → Int32) (g_R : Nat → Int32) (g_C : Nat → Int32) (g_L : Nat → Int32) (m_rl : Int32) (m_lf : Int32) (m_ov : Int32) (m_pl : Int64)  : Int32 × Int32 × Int32 × Int32 × (Nat → Int32) × (Nat → Int32) × (Nat → Int32) × (Nat → Int32) × (Nat → Int32) × (Nat → Int32) × Int32 × Int32 × Int32 × Int64 :=
  cf_X6_size_s61_7  m_th m_o m_f m_r m_a (upd u_F ((6 : Int32)).toNatClampNeg (-1 : Int32)) u_R g_F g_R g_C g_L m_rl m_lf m_ov m_pl 
def cf_X6_size_s61_5  (m_th : Int32) (m_o : Int32) (m_f : Int32) (m_r : Int32) (m_a : Int32) (u_F : Nat → Int32) (u_R : Nat → Int32) (g_F : Nat → Int32) (g_R : Nat → Int32) (g_C : Nat → Int32) (g_L : Nat → Int32) (m_rl : Int32) (m_lf : Int32) (m_ov : Int32) (m_pl : Int64)  : Int32 × Int32 × Int32 × Int32 × (Nat → Int32) × (Nat → Int32) × (Nat → Int32) × (Nat → Int32) × (Nat → Int32) × (Nat → Int32) × Int32 × Int32 × Int32 × Int64 :=
  cf_X6_size_s61_6  m_th m_o m_f m_r m_a (upd u_F ((5 : Int32)).toNatClampNeg (-1 : Int32)) u_R g_F g_R g_C g_L m_rl m_lf m_ov m_pl 
def cf_X6_size_s61_4  (m_th : Int32) (m_o : Int32) (m_f : Int32) (m_r : Int32) (m_a : Int32) (u_F : Nat → Int32) (u_R : Nat → Int32) (g_F : Nat → Int32) (g_R : Nat → Int32) (g_C : Nat → Int32) (g_L : Nat → Int32) (m_rl : Int32) (m_lf : Int32) (m_ov : Int32) (m_pl : Int64)  : Int32 × Int32 × Int32 × Int32 × (Nat → Int32) × (Nat → Int32) × (Nat → Int32) × (Nat → Int32) × (Nat → Int32) × (Nat → Int32) × Int32 × Int32 × Int32 × Int64 :=
  cf_X6_size_s61_5  m_th m_o m_f m_r m_a (upd u_F ((4 : Int32)).toNatClampNeg (-1 : Int32)) u_R g_F g_R g_C g_L m_rl m_lf m_ov m_pl 
def cf_X6_size_s61_3  (m_th : Int32) (m_o : Int32) (m_f : Int32) (m_r : Int32) (m_a : Int32) (u_F : Nat → Int32) (u_R : Nat → Int32) (g_F : Nat → Int32) (g_R : Nat → Int32) (g_C : Nat → Int32) (g_L : Nat → Int32) (m_rl : Int32) (m_lf : Int32) (m_ov : Int32) (m_pl : Int64)  : Int32 × Int32 × Int32 × Int32 × (Nat → Int32) × (Nat → Int32) × (Nat → Int32) × (Nat → Int32) × (Nat → Int32) × (Nat → Int32) × Int32 × Int32 × Int32 × Int64 :=
  cf_X6_size_s61_4  m_th m_o m_f m_r m_a (upd u_F ((3 : Int32)).toNatClampNeg (-1 : Int32)) u_R g_F g_R g_C g_L m_rl m_lf m_ov m_pl 
def cf_X6_size_s61_2  (m_th : Int32) (m_o : Int32) (m_f : Int32) (m_r : Int32) (m_a : Int32) (u_F : Nat → Int32) (u_R : Nat → Int32) (g_F : Nat → Int32) (g_R : Nat → Int32) (g_C : Nat → Int32) (g_L : Nat → Int32) (m_rl : Int32) (m_lf : Int32) (m_ov : Int32) (m_pl : Int64)  : Int32 × Int32 × Int32 × Int32 × (Nat → Int32) × (Nat → Int32) × (Nat → Int32) × (Nat → Int32) × (Nat → Int32) × (Nat → Int32) × Int32 × Int32 × Int32 × Int64 :=
  cf_X6_size_s61_3  m_th m_o m_f m_r m_a (upd u_F ((2 : Int32)).toNatClampNeg (-1 : Int32)) u_R g_F g_R g_C g_L m_rl m_lf m_ov m_pl 
def cf_X6_size_s61_1  (m_th : Int32) (m_o : Int32) (m_f : Int32) (m_r : Int32) (m_a : Int32) (u_F : Nat → Int32) (u_R : Nat → Int32) (g_F : Nat → Int32) (g_R : Nat → Int32) (g_C : Nat → Int32) (g_L : Nat → Int32) (m_rl : Int32) (m_lf : Int32) (m_ov : Int32) (m_pl : Int64)  : Int32 × Int32 × Int32 × Int32 × (Nat → Int32) × (Nat → Int32) × (Nat → Int32) × (Nat → Int32) × (Nat → Int32) × (Nat → Int32) × Int32 × Int32 × Int32 × Int64 :=
  cf_X6_size_s61_2  m_th m_o m_f m_r m_a (upd u_F ((1 : Int32)).toNatClampNeg (-1 : Int32)) u_R g_F g_R g_C g_L m_rl m_lf m_ov m_pl 
def cf_X6_size_s61_0  (m_th : Int32) (m_o : Int32) (m_f : Int32) (m_r : Int32) (m_a : Int32) (u_F : Nat → Int32) (u_R : Nat → Int32) (g_F : Nat → Int32) (g_R : Nat → Int32) (g_C : Nat → Int32) (g_L : Nat → Int32) (m_rl : Int32) (m_lf : Int32) (m_ov : Int32) (m_pl : Int64)  : Int32 × Int32 × Int32 × Int32 × (Nat → Int32) × (Nat → Int32) × (Nat → Int32) × (Nat → Int32) × (Nat → Int32) × (Nat → Int32) × Int32 × Int32 × Int32 × Int64 :=
  cf_X6_size_s61_1  m_th m_o m_f m_r m_a (upd u_F ((0 : Int32)).toNatClampNeg (-1 : Int32)) u_R g_F g_R g_C g_L m_rl m_lf m_ov m_pl 
def cf_X6_size_s36  (m_th : Int32) (m_o : Int32) (m_f : Int32) (m_r : Int32) (m_a : Int32) (u_F : Nat → Int32) (u_R : Nat → Int32) (g_F : Nat → Int32) (g_R : Nat → Int32) (g_C : Nat → Int32) (g_L : Nat → Int32) (m_rl : Int32) (m_lf : Int32) (m_ov : Int32) (m_pl : Int64) (x1 : Int32) (x2 : Int32) (x3 : Int32) (y0 : Int32) : Int32 × Int32 × Int32 × Int32 × (Nat → Int32) × (Nat → Int32) × (Nat → Int32) × (Nat → Int32) × (Nat → Int32) × (Nat → Int32) × Int32 × Int32 × Int32 × Int64 :=
  (if (cf_X6_fails m_th y0).2 = 0 then cf_X6_size_s61_0  ((cf_X6_fails m_th y0).1) x1 x2 x3 m_a u_F u_R g_F g_R g_C g_L m_rl m_lf m_ov m_pl  else ((cf_X6_fails m_th y0).1, m_o, m_f, m_r, u_F, u_R, g_F, g_R, g_C, g_L, m_rl, m_lf, m_ov, m_pl))
def cf_X6_size_s31  (m_th : Int32) (m_o : Int32) (m_f : Int32) (m_r : Int32) (m_a : Int32) (u_F : Nat → Int32) (u_R : Nat → Int32) (g_F : Nat → Int32) (g_R : Nat → Int32) (g_C : Nat → Int32) (g_L : Nat → Int32) (m_rl : Int32) (m_lf : Int32) (m_ov : Int32) (m_pl : Int64) (x1 : Int32) (x2 : Int32) (x3 : Int32) : Int32 × Int32 × Int32 × Int32 × (Nat → Int32) × (Nat → Int32) × (Nat → Int32) × (Nat → Int32) × (Nat → Int32) × (Nat → Int32) × Int32 × Int32 × Int32 × Int64 :=
  cf_X6_size_s36  m_th m_o m_f m_r m_a u_F u_R g_F g_R g_C g_L m_rl m_lf m_ov m_pl x1 x2 x3 (1 : Int32)
def cf_X6_size (m_th : Int32) (m_o : Int32) (m_f : Int32) (m_r : Int32) (m_a : Int32) (u_F : Nat → Int32) (u_R : Nat → Int32) (g_F : Nat → Int32) (g_R : Nat → Int32) (g_C : Nat → Int32) (g_L : Nat → Int32) (m_rl : Int32) (m_lf : Int32) (m_ov : Int32) (m_pl : Int64) (a0 : Int32) (a1 : Int32) (a2 : Int32) : Int32 × Int32 × Int32 × Int32 × (Nat → Int32) × (Nat → Int32) × (Nat → Int32) × (Nat → Int32) × (Nat → Int32) × (Nat → Int32) × Int32 × Int32 × Int32 × Int64 :=
  (if a0 < (1 : Int32) then cf_X6_size_s31  m_th m_o m_f m_r m_a u_F u_R g_F g_R g_C g_L m_rl m_lf m_ov m_pl a0 a1 a2 else (if (4 : Int32) < a0 then cf_X6_size_s31  m_th m_o m_f m_r m_a u_F u_R g_F g_R g_C g_L m_rl m_lf m_ov m_pl a0 a1 a2 else (if a1 < (1 : Int32) then cf_X6_size_s31  m_th m_o m_f m_r m_a u_F u_R g_F g_R g_C g_L m_rl m_lf m_ov m_pl a0 a1 a2 else (if (2 : Int32) < a1 then cf_X6_size_s31  m_th m_o m_f m_r m_a u_F u_R g_F g_R g_C g_L m_rl m_lf m_ov m_pl a0 a1 a2 else (if a2 < (1 : Int32) then cf_X6_size_s31  m_th m_o m_f m_r m_a u_F u_R g_F g_R g_C g_L m_rl m_lf m_ov m_pl a0 a1 a2 else (if a2 ≤ (3 : Int32) then cf_X6_size_s36  m_th m_o m_f m_r m_a u_F u_R g_F g_R g_C g_L m_rl m_lf m_ov m_pl a0 a1 a2 (0 : Int32) else cf_X6_size_s31  m_th m_o m_f m_r m_a u_F u_R g_F g_R g_C g_L m_rl m_lf m_ov m_pl a0 a1 a2))))))
set_option maxHeartbeats 4000000 in
set_option maxRecDepth 100000 in
theorem c_X6_size (l : Launch) (dC : Nat → ClassId) (dI : Nat → Nat → Nat) (q6 qA qB qF qR qC qL qS qO qY qH qW qM : Nat) (cyI cyJ cyZ : ClassId) (m_th : Int32) (m_o : Int32) (m_f : Int32) (m_r : Int32) (m_b : Int32) (m_a : Int32) (u_F : Nat → Int32) (u_R : Nat → Int32) (g_F : Nat → Int32) (g_R : Nat → Int32) (g_C : Nat → Int32) (g_L : Nat → Int32) (m_rl : Int32) (m_lf : Int32) (m_ov : Int32) (m_pl : Int64) (g_S : Nat → Int64) (g_O : Nat → Int32) (g_Y : Nat → Int32) (g_H : Nat → Int32) (m_st : Int32) (g_W : Nat → Int32) (m_rm : Int32) (m_fs : Int32) (g_M : Nat → Int32) (sz : Nat) (a0 : Int32) (a1 : Int32) (a2 : Int32)   : Met l yX6_size wsX6_size ({ frames := 2, cells := 0, slots := 0, locals := 44 }) (mu_P [.ref q6, .int a0, .int a1, .int a2] sz (dC, dI) kcl (mo_W q6 qA qB qF qR qC qL qS qO qY qH qW qM cyI cyJ cyZ m_th m_o m_f m_r m_b m_a u_F u_R g_F g_R g_C g_L m_rl m_lf m_ov m_pl g_S g_O g_Y g_H m_st g_W m_rm m_fs g_M) [(cyI, .int), (cyJ, .long), (cyZ, .boolean)]) (mu_Q none (dC, dI) kcl (mo_W q6 qA qB qF qR qC qL qS qO qY qH qW qM cyI cyJ cyZ ((cf_X6_size m_th m_o m_f m_r m_a u_F u_R g_F g_R g_C g_L m_rl m_lf m_ov m_pl a0 a1 a2).1) ((cf_X6_size m_th m_o m_f m_r m_a u_F u_R g_F g_R g_C g_L m_rl m_lf m_ov m_pl a0 a1 a2).2.1) ((cf_X6_size m_th m_o m_f m_r m_a u_F u_R g_F g_R g_C g_L m_rl m_lf m_ov m_pl a0 a1 a2).2.2.1) ((cf_X6_size m_th m_o m_f m_r m_a u_F u_R g_F g_R g_C g_L m_rl m_lf m_ov m_pl a0 a1 a2).2.2.2.1) m_b m_a ((cf_X6_size m_th m_o m_f m_r m_a u_F u_R g_F g_R g_C g_L m_rl m_lf m_ov m_pl a0 a1 a2).2.2.2.2.1) ((cf_X6_size m_th m_o m_f m_r m_a u_F u_R g_F g_R g_C g_L m_rl m_lf m_ov m_pl a0 a1 a2).2.2.2.2.2.1) ((cf_X6_size m_th m_o m_f m_r m_a u_F u_R g_F g_R g_C g_L m_rl m_lf m_ov m_pl a0 a1 a2).2.2.2.2.2.2.1) ((cf_X6_size m_th m_o m_f m_r m_a u_F u_R g_F g_R g_C g_L m_rl m_lf m_ov m_pl a0 a1 a2).2.2.2.2.2.2.2.1) ((cf_X6_size m_th m_o m_f m_r m_a u_F u_R g_F g_R g_C g_L m_rl m_lf m_ov m_pl a0 a1 a2).2.2.2.2.2.2.2.2.1) ((cf_X6_size m_th m_o m_f m_r m_a u_F u_R g_F g_R g_C g_L m_rl m_lf m_ov m_pl a0 a1 a2).2.2.2.2.2.2.2.2.2.1) ((cf_X6_size m_th m_o m_f m_r m_a u_F u_R g_F g_R g_C g_L m_rl m_lf m_ov m_pl a0 a1 a2).2.2.2.2.2.2.2.2.2.2.1) ((cf_X6_size m_th m_o m_f m_r m_a u_F u_R g_F g_R g_C g_L m_rl m_lf m_ov m_pl a0 a1 a2).2.2.2.2.2.2.2.2.2.2.2.1) ((cf_X6_size m_th m_o m_f m_r m_a u_F u_R g_F g_R g_C g_L m_rl m_lf m_ov m_pl a0 a1 a2).2.2.2.2.2.2.2.2.2.2.2.2.1) ((cf_X6_size m_th m_o m_f m_r m_a u_F u_R g_F g_R g_C g_L m_rl m_lf m_ov m_pl a0 a1 a2).2.2.2.2.2.2.2.2.2.2.2.2.2) g_S g_O g_Y g_H m_st g_W m_rm m_fs g_M) (va_A (mo_W q6 qA qB qF qR qC qL qS qO qY qH qW qM cyI cyJ cyZ m_th m_o m_f m_r m_b m_a u_F u_R g_F g_R g_C g_L m_rl m_lf m_ov m_pl g_S g_O g_Y g_H m_st g_W m_rm m_fs g_M) sz)) 0 0 (va_A (mo_W q6 qA qB qF qR qC qL qS qO qY qH qW qM cyI cyJ cyZ m_th m_o m_f m_r m_b m_a u_F u_R g_F g_R g_C g_L m_rl m_lf m_ov m_pl g_S g_O g_Y g_H m_st g_W m_rm m_fs g_M) sz) := by
  refine Met.ofW (cc := cX6_size) (maxL := 5) (ret := none) (by decide) rfl ?_
  intro p e s m args below meth c s₁ B hml hv
  obtain ⟨rfl, hsz, hP, hK, hD0⟩ := hv
  have hx := B.exec
  have hb := B.bytes
  have hr := B.returns
  have hts := atoms_spec (ws := wsX6_size) B.pre
  have hown : s.vm.findClass RX6 = some m.cls := findClass_of_methodNamed B.named
  have hlocks := B.notSynchronized
  subst hsz
  have hD := hD0.self (sz := s.heap.size)
  generalize hAe : va_A (mo_W q6 qA qB qF qR qC qL qS qO qY qH qW qM cyI cyJ cyZ m_th m_o m_f m_r m_b m_a u_F u_R g_F g_R g_C g_L m_rl m_lf m_ov m_pl g_S g_O g_Y g_H m_st g_W m_rm m_fs g_M) s.heap.size = A at hD ⊢
  have hA : ∀ q : Nat, s.heap.size ≤ q → A q := fun q h => by rw [← hAe]; exact Or.inr h
  have hP : va_P (dC, dI) kcl (mo_W q6 qA qB qF qR qC qL qS qO qY qH qW qM cyI cyJ cyZ m_th m_o m_f m_r m_b m_a u_F u_R g_F g_R g_C g_L m_rl m_lf m_ov m_pl g_S g_O g_Y g_H m_st g_W m_rm m_fs g_M) s.heap := hP
  have h0_ : (Cond.fieldLink RX6 13 "ColourTrierModel" "objects" "I").before _ s = true := hts _ (by decide +kernel)
  have h1_ : ∀ w ∈ u_ws RX6 TX6 25, w ∈ wsX6_size := fun w h => List.mem_cons_of_mem _ (List.mem_append_right _ h)
  have h2_ : (Cond.fieldLink RX6 16 "ColourTrierModel" "fields" "I").before _ s = true := hts _ (by decide +kernel)
  have h3_ : (Cond.fieldLink RX6 19 "ColourTrierModel" "roots" "I").before _ s = true := hts _ (by decide +kernel)
  have h4_ : (Cond.fieldLink RX6 22 "ColourTrierModel" "firstField" "[I").before _ s = true := hts _ (by decide +kernel)
  have h5_ : (Cond.fieldLink RX6 26 "ColourTrierModel" "firstRoot" "[I").before _ s = true := hts _ (by decide +kernel)
  have h6_ : (Cond.fieldLink RX6 66 "ColourTrierModel" "played" "J").before _ s = true := hts _ (by decide +kernel)
  generalize hR : (cf_X6_size m_th m_o m_f m_r m_a u_F u_R g_F g_R g_C g_L m_rl m_lf m_ov m_pl a0 a1 a2) = R
  have Ks113 : ∀  (m_th : Int32) (m_o : Int32) (m_f : Int32) (m_r : Int32) (u_F : Nat → Int32) (u_R : Nat → Int32) (g_F : Nat → Int32) (g_R : Nat → Int32) (g_C : Nat → Int32) (g_L : Nat → Int32) (m_rl : Int32) (m_lf : Int32) (m_ov : Int32) (m_pl : Int64) (y0 : Int64) (H : Heap) (locs : List Loc) (ls : Array Slot), va_P (dC, dI) kcl (mo_W q6 qA qB qF qR qC qL qS qO qY qH qW qM cyI cyJ cyZ m_th m_o m_f m_r m_b m_a u_F u_R g_F g_R g_C g_L m_rl m_lf m_ov m_pl g_S g_O g_Y g_H m_st g_W m_rm m_fs g_M) H → va_D A (mo_W q6 qA qB qF qR qC qL qS qO qY qH qW qM cyI cyJ cyZ m_th m_o m_f m_r m_b m_a u_F u_R g_F g_R g_C g_L m_rl m_lf m_ov m_pl g_S g_O g_Y g_H m_st g_W m_rm m_fs g_M) → va_S A s.heap H locs → lv_has ls 5 [] → cf_X6_size_s113  m_th m_o m_f m_r m_a u_F u_R g_F g_R g_C g_L m_rl m_lf m_ov m_pl y0 = R → W p l e (headSpec wsX6_size ({ frames := 2, cells := 0, slots := 0, locals := 44 })).room s m ([.ref q6, .int a0, .int a1, .int a2] : List Value).toArray below meth c H locs 0 0 (MQ below (mu_Q none (dC, dI) kcl (mo_W q6 qA qB qF qR qC qL qS qO qY qH qW qM cyI cyJ cyZ R.1 R.2.1 R.2.2.1 R.2.2.2.1 m_b m_a R.2.2.2.2.1 R.2.2.2.2.2.1 R.2.2.2.2.2.2.1 R.2.2.2.2.2.2.2.1 R.2.2.2.2.2.2.2.2.1 R.2.2.2.2.2.2.2.2.2.1 R.2.2.2.2.2.2.2.2.2.2.1 R.2.2.2.2.2.2.2.2.2.2.2.1 R.2.2.2.2.2.2.2.2.2.2.2.2.1 R.2.2.2.2.2.2.2.2.2.2.2.2.2 g_S g_O g_Y g_H m_st g_W m_rm m_fs g_M) A) ([.ref q6, .int a0, .int a1, .int a2] : List Value).toArray s 0 0 A) (F0 m 113 ls [.long y0, .ref q6]) := by
    intro  m_th m_o m_f m_r u_F u_R g_F g_R g_C g_L m_rl m_lf m_ov m_pl y0 H locs ls hP hD hS hl hR
    unfold cf_X6_size_s113 at hR
    refine va_put (D := (dC, dI)) (ci := 4) (v := .long y0) (ty := .long) (C := RX6) (T := TX6) (N := 25) hx hb hts h1_ tyX6 tyX6_ok nmX6 hown hK hP hD hS 0 rfl rfl 15 (by decide) h6_ (fun _ h9 => h9) rfl (by decide +kernel) rfl rfl (Nat.le_of_ble_eq_true rfl) dX6_size_113 (fun H locs hP hD hS => ?_)
    have hP : va_P (dC, dI) kcl (mo_W q6 qA qB qF qR qC qL qS qO qY qH qW qM cyI cyJ cyZ m_th m_o m_f m_r m_b m_a u_F u_R g_F g_R g_C g_L m_rl m_lf m_ov y0 g_S g_O g_Y g_H m_st g_W m_rm m_fs g_M) H := hP
    have hD : va_D A (mo_W q6 qA qB qF qR qC qL qS qO qY qH qW qM cyI cyJ cyZ m_th m_o m_f m_r m_b m_a u_F u_R g_F g_R g_C g_L m_rl m_lf m_ov y0 g_S g_O g_Y g_H m_st g_W m_rm m_fs g_M) := hD
    rw [← hR]
    exact W.vret hx hb hr (fun t ht _ => ⟨rfl, by rw [ht]; exact hP, hS.F ht⟩) hS.2.2 dX6_size_116
  have Ks88_3 : ∀  (m_th : Int32) (m_o : Int32) (m_f : Int32) (m_r : Int32) (u_F : Nat → Int32) (u_R : Nat → Int32) (g_F : Nat → Int32) (g_R : Nat → Int32) (g_C : Nat → Int32) (g_L : Nat → Int32) (m_rl : Int32) (m_lf : Int32) (m_ov : Int32) (m_pl : Int64)  (H : Heap) (locs : List Loc) (ls : Array Slot), va_P (dC, dI) kcl (mo_W q6 qA qB qF qR qC qL qS qO qY qH qW qM cyI cyJ cyZ m_th m_o m_f m_r m_b m_a u_F u_R g_F g_R g_C g_L m_rl m_lf m_ov m_pl g_S g_O g_Y g_H m_st g_W m_rm m_fs g_M) H → va_D A (mo_W q6 qA qB qF qR qC qL qS qO qY qH qW qM cyI cyJ cyZ m_th m_o m_f m_r m_b m_a u_F u_R g_F g_R g_C g_L m_rl m_lf m_ov m_pl g_S g_O g_Y g_H m_st g_W m_rm m_fs g_M) → va_S A s.heap H locs → lv_has ls 5 [(0, .ref q6), (4, .int (3 : Int32))] → cf_X6_size_s88_3  m_th m_o m_f m_r m_a u_F u_R g_F g_R g_C g_L m_rl m_lf m_ov m_pl  = R → W p l e (headSpec wsX6_size ({ frames := 2, cells := 0, slots := 0, locals := 44 })).room s m ([.ref q6, .int a0, .int a1, .int a2] : List Value).toArray below meth c H locs 0 0 (MQ below (mu_Q none (dC, dI) kcl (mo_W q6 qA qB qF qR qC qL qS qO qY qH qW qM cyI cyJ cyZ R.1 R.2.1 R.2.2.1 R.2.2.2.1 m_b m_a R.2.2.2.2.1 R.2.2.2.2.2.1 R.2.2.2.2.2.2.1 R.2.2.2.2.2.2.2.1 R.2.2.2.2.2.2.2.2.1 R.2.2.2.2.2.2.2.2.2.1 R.2.2.2.2.2.2.2.2.2.2.1 R.2.2.2.2.2.2.2.2.2.2.2.1 R.2.2.2.2.2.2.2.2.2.2.2.2.1 R.2.2.2.2.2.2.2.2.2.2.2.2.2 g_S g_O g_Y g_H m_st g_W m_rm m_fs g_M) A) ([.ref q6, .int a0, .int a1, .int a2] : List Value).toArray s 0 0 A) (F0 m 88 ls []) := by
    intro  m_th m_o m_f m_r u_F u_R g_F g_R g_C g_L m_rl m_lf m_ov m_pl  H locs ls hP hD hS hl hR
    unfold cf_X6_size_s88_3 at hR
    refine lv_iload hx hb dX6_size_88 (lv_at hl 1 rfl) ?_
    refine lv_iconst (v := (3 : Int32)) hx hb dX6_size_90 (by decide +kernel) ?_
    refine lv_icmp_ge (tgt := 108) hx hb dX6_size_91 (by decide) (fun _ => ?_) (fun c_0 => absurd c_0 (by decide +kernel))
    refine lv_aload_n hx hb dX6_size_108 rfl (lv_at hl 0 rfl) ?_
    refine lv_aload_n hx hb dX6_size_109 rfl (lv_at hl 0 rfl) ?_
    refine mu_call (ws' := (mo_W q6 qA qB qF qR qC qL qS qO qY qH qW qM cyI cyJ cyZ m_th m_o m_f m_r m_b m_a u_F u_R ((cf_X6_first m_a u_F u_R g_F g_R g_C g_L m_rl m_lf m_ov ).1) ((cf_X6_first m_a u_F u_R g_F g_R g_C g_L m_rl m_lf m_ov ).2.1) ((cf_X6_first m_a u_F u_R g_F g_R g_C g_L m_rl m_lf m_ov ).2.2.1) ((cf_X6_first m_a u_F u_R g_F g_R g_C g_L m_rl m_lf m_ov ).2.2.2.1) ((cf_X6_first m_a u_F u_R g_F g_R g_C g_L m_rl m_lf m_ov ).2.2.2.2.1) ((cf_X6_first m_a u_F u_R g_F g_R g_C g_L m_rl m_lf m_ov ).2.2.2.2.2.1) ((cf_X6_first m_a u_F u_R g_F g_R g_C g_L m_rl m_lf m_ov ).2.2.2.2.2.2.1) m_pl g_S g_O g_Y g_H m_st g_W m_rm m_fs g_M)) (wr := []) (va_runV (As := []) (rest := [.ref q6]) ⟨hx, hb, hml, hown, hts⟩ (c_X6_first l dC dI q6 qA qB qF qR qC qL qS qO qY qH qW qM cyI cyJ cyZ m_th m_o m_f m_r m_b m_a u_F u_R g_F g_R g_C g_L m_rl m_lf m_ov m_pl g_S g_O g_Y g_H m_st g_W m_rm m_fs g_M H.size   ) (cwV 0 hts gX6_size_X6_first rfl rfl rfl (by decide +kernel) ⟨Nat.le_of_ble_eq_true rfl, Nat.le_of_ble_eq_true rfl⟩) ⟨mu_blind, va_recv hK hP (ci := 4) (q0 := 0) rfl rfl, fun U hU hW => ⟨rfl, by rw [hU], by rw [hU]; exact hP, va_K.moved hW.alike (hK.sub [0, 1, 2] rfl), hD.weaken (fun _ _ _ _ => trivial)⟩⟩ rfl rfl hl.1 rfl (lv_room (Nat.le_of_ble_eq_true rfl)) dX6_size_110 ⟨Nat.le_refl _, Nat.le_refl _⟩) hP hD hS hA [0, 1, 2, 3, 4, 5, 6, 7, 8, 9, 10, 11, 12] [] [0, 1, 2, 3, 4, 5, 6, 7, 8, 9, 10, 11, 12] rfl rfl (by decide) (by decide) (by decide) rfl (by decide) rfl (fun H locs hP hD hS => ?_)
    refine W.eq (g2 := F0 m 113 ls [.long ((cf_X6_first m_a u_F u_R g_F g_R g_C g_L m_rl m_lf m_ov ).2.2.2.2.2.2.2), .ref q6]) rfl ?_
    exact Ks113  m_th m_o m_f m_r u_F u_R ((cf_X6_first m_a u_F u_R g_F g_R g_C g_L m_rl m_lf m_ov ).1) ((cf_X6_first m_a u_F u_R g_F g_R g_C g_L m_rl m_lf m_ov ).2.1) ((cf_X6_first m_a u_F u_R g_F g_R g_C g_L m_rl m_lf m_ov ).2.2.1) ((cf_X6_first m_a u_F u_R g_F g_R g_C g_L m_rl m_lf m_ov ).2.2.2.1) ((cf_X6_first m_a u_F u_R g_F g_R g_C g_L m_rl m_lf m_ov ).2.2.2.2.1) ((cf_X6_first m_a u_F u_R g_F g_R g_C g_L m_rl m_lf m_ov ).2.2.2.2.2.1) ((cf_X6_first m_a u_F u_R g_F g_R g_C g_L m_rl m_lf m_ov ).2.2.2.2.2.2.1) m_pl ((cf_X6_first m_a u_F u_R g_F g_R g_C g_L m_rl m_lf m_ov ).2.2.2.2.2.2.2) H locs ls hP hD hS (lv_sub hl [] rfl) hR
  have Ks88_2 : ∀  (m_th : Int32) (m_o : Int32) (m_f : Int32) (m_r : Int32) (u_F : Nat → Int32) (u_R : Nat → Int32) (g_F : Nat → Int32) (g_R : Nat → Int32) (g_C : Nat → Int32) (g_L : Nat → Int32) (m_rl : Int32) (m_lf : Int32) (m_ov : Int32) (m_pl : Int64)  (H : Heap) (locs : List Loc) (ls : Array Slot), va_P (dC, dI) kcl (mo_W q6 qA qB qF qR qC qL qS qO qY qH qW qM cyI cyJ cyZ m_th m_o m_f m_r m_b m_a u_F u_R g_F g_R g_C g_L m_rl m_lf m_ov m_pl g_S g_O g_Y g_H m_st g_W m_rm m_fs g_M) H → va_D A (mo_W q6 qA qB qF qR qC qL qS qO qY qH qW qM cyI cyJ cyZ m_th m_o m_f m_r m_b m_a u_F u_R g_F g_R g_C g_L m_rl m_lf m_ov m_pl g_S g_O g_Y g_H m_st g_W m_rm m_fs g_M) → va_S A s.heap H locs → lv_has ls 5 [(0, .ref q6), (4, .int (2 : Int32))] → cf_X6_size_s88_2  m_th m_o m_f m_r m_a u_F u_R g_F g_R g_C g_L m_rl m_lf m_ov m_pl  = R → W p l e (headSpec wsX6_size ({ frames := 2, cells := 0, slots := 0, locals := 44 })).room s m ([.ref q6, .int a0, .int a1, .int a2] : List Value).toArray below meth c H locs 0 0 (MQ below (mu_Q none (dC, dI) kcl (mo_W q6 qA qB qF qR qC qL qS qO qY qH qW qM cyI cyJ cyZ R.1 R.2.1 R.2.2.1 R.2.2.2.1 m_b m_a R.2.2.2.2.1 R.2.2.2.2.2.1 R.2.2.2.2.2.2.1 R.2.2.2.2.2.2.2.1 R.2.2.2.2.2.2.2.2.1 R.2.2.2.2.2.2.2.2.2.1 R.2.2.2.2.2.2.2.2.2.2.1 R.2.2.2.2.2.2.2.2.2.2.2.1 R.2.2.2.2.2.2.2.2.2.2.2.2.1 R.2.2.2.2.2.2.2.2.2.2.2.2.2 g_S g_O g_Y g_H m_st g_W m_rm m_fs g_M) A) ([.ref q6, .int a0, .int a1, .int a2] : List Value).toArray s 0 0 A) (F0 m 88 ls []) := by
    intro  m_th m_o m_f m_r u_F u_R g_F g_R g_C g_L m_rl m_lf m_ov m_pl  H locs ls hP hD hS hl hR
    unfold cf_X6_size_s88_2 at hR
    refine lv_iload hx hb dX6_size_88 (lv_at hl 1 rfl) ?_
    refine lv_iconst (v := (3 : Int32)) hx hb dX6_size_90 (by decide +kernel) ?_
    refine lv_icmp_ge (tgt := 108) hx hb dX6_size_91 (by decide) (fun c_0 => absurd c_0 (by decide +kernel)) (fun _ => ?_)
    refine lv_aload_n hx hb dX6_size_94 rfl (lv_at hl 0 rfl) ?_
    refine va_get (D := (dC, dI)) (ci := 4) (v := .ref qB) (C := RX6) (T := TX6) (N := 25) hx hb hts h1_ hown hK hP 0 rfl rfl 7 (by decide) h5_ (fun _ h9 => h9) rfl dX6_size_95 ?_
    refine lv_iload hx hb dX6_size_98 (lv_at hl 1 rfl) ?_
    refine lv_iconst (v := (-1 : Int32)) hx hb dX6_size_100 (by decide +kernel) ?_
    refine va_iast hx hb hK hP hD hS 2 0 rfl rfl (by unfold vp_in; decide +kernel) dX6_size_101 (fun H locs hP hD hS => ?_)
    have hP : va_P (dC, dI) kcl (mo_W q6 qA qB qF qR qC qL qS qO qY qH qW qM cyI cyJ cyZ m_th m_o m_f m_r m_b m_a u_F (upd u_R ((2 : Int32)).toNatClampNeg (-1 : Int32)) g_F g_R g_C g_L m_rl m_lf m_ov m_pl g_S g_O g_Y g_H m_st g_W m_rm m_fs g_M) H := hP
    have hD : va_D A (mo_W q6 qA qB qF qR qC qL qS qO qY qH qW qM cyI cyJ cyZ m_th m_o m_f m_r m_b m_a u_F (upd u_R ((2 : Int32)).toNatClampNeg (-1 : Int32)) g_F g_R g_C g_L m_rl m_lf m_ov m_pl g_S g_O g_Y g_H m_st g_W m_rm m_fs g_M) := hD
    refine lv_iinc (v := (3 : Int32)) (lv' := [(4, .int (3 : Int32)), (0, .ref q6)]) hx hb dX6_size_102 hl (k := 1) rfl (by decide +kernel) (by decide) rfl (fun ls hl => ?_)
    refine lv_goto (tgt := 88) hx hb dX6_size_105 (by decide) ?_
    exact Ks88_3  m_th m_o m_f m_r u_F (upd u_R ((2 : Int32)).toNatClampNeg (-1 : Int32)) g_F g_R g_C g_L m_rl m_lf m_ov m_pl  H locs ls hP hD hS (lv_sub hl [1, 0] rfl) hR
  have Ks88_1 : ∀  (m_th : Int32) (m_o : Int32) (m_f : Int32) (m_r : Int32) (u_F : Nat → Int32) (u_R : Nat → Int32) (g_F : Nat → Int32) (g_R : Nat → Int32) (g_C : Nat → Int32) (g_L : Nat → Int32) (m_rl : Int32) (m_lf : Int32) (m_ov : Int32) (m_pl : Int64)  (H : Heap) (locs : List Loc) (ls : Array Slot), va_P (dC, dI) kcl (mo_W q6 qA qB qF qR qC qL qS qO qY qH qW qM cyI cyJ cyZ m_th m_o m_f m_r m_b m_a u_F u_R g_F g_R g_C g_L m_rl m_lf m_ov m_pl g_S g_O g_Y g_H m_st g_W m_rm m_fs g_M) H → va_D A (mo_W q6 qA qB qF qR qC qL qS qO qY qH qW qM cyI cyJ cyZ m_th m_o m_f m_r m_b m_a u_F u_R g_F g_R g_C g_L m_rl m_lf m_ov m_pl g_S g_O g_Y g_H m_st g_W m_rm m_fs g_M) → va_S A s.heap H locs → lv_has ls 5 [(0, .ref q6), (4, .int (1 : Int32))] → cf_X6_size_s88_1  m_th m_o m_f m_r m_a u_F u_R g_F g_R g_C g_L m_rl m_lf m_ov m_pl  = R → W p l e (headSpec wsX6_size ({ frames := 2, cells := 0, slots := 0, locals := 44 })).room s m ([.ref q6, .int a0, .int a1, .int a2] : List Value).toArray below meth c H locs 0 0 (MQ below (mu_Q none (dC, dI) kcl (mo_W q6 qA qB qF qR qC qL qS qO qY qH qW qM cyI cyJ cyZ R.1 R.2.1 R.2.2.1 R.2.2.2.1 m_b m_a R.2.2.2.2.1 R.2.2.2.2.2.1 R.2.2.2.2.2.2.1 R.2.2.2.2.2.2.2.1 R.2.2.2.2.2.2.2.2.1 R.2.2.2.2.2.2.2.2.2.1 R.2.2.2.2.2.2.2.2.2.2.1 R.2.2.2.2.2.2.2.2.2.2.2.1 R.2.2.2.2.2.2.2.2.2.2.2.2.1 R.2.2.2.2.2.2.2.2.2.2.2.2.2 g_S g_O g_Y g_H m_st g_W m_rm m_fs g_M) A) ([.ref q6, .int a0, .int a1, .int a2] : List Value).toArray s 0 0 A) (F0 m 88 ls []) := by
    intro  m_th m_o m_f m_r u_F u_R g_F g_R g_C g_L m_rl m_lf m_ov m_pl  H locs ls hP hD hS hl hR
    unfold cf_X6_size_s88_1 at hR
    refine lv_iload hx hb dX6_size_88 (lv_at hl 1 rfl) ?_
    refine lv_iconst (v := (3 : Int32)) hx hb dX6_size_90 (by decide +kernel) ?_
    refine lv_icmp_ge (tgt := 108) hx hb dX6_size_91 (by decide) (fun c_0 => absurd c_0 (by decide +kernel)) (fun _ => ?_)
    refine lv_aload_n hx hb dX6_size_94 rfl (lv_at hl 0 rfl) ?_
    refine va_get (D := (dC, dI)) (ci := 4) (v := .ref qB) (C := RX6) (T := TX6) (N := 25) hx hb hts h1_ hown hK hP 0 rfl rfl 7 (by decide) h5_ (fun _ h9 => h9) rfl dX6_size_95 ?_
    refine lv_iload hx hb dX6_size_98 (lv_at hl 1 rfl) ?_
    refine lv_iconst (v := (-1 : Int32)) hx hb dX6_size_100 (by decide +kernel) ?_
    refine va_iast hx hb hK hP hD hS 2 0 rfl rfl (by unfold vp_in; decide +kernel) dX6_size_101 (fun H locs hP hD hS => ?_)
    have hP : va_P (dC, dI) kcl (mo_W q6 qA qB qF qR qC qL qS qO qY qH qW qM cyI cyJ cyZ m_th m_o m_f m_r m_b m_a u_F (upd u_R ((1 : Int32)).toNatClampNeg (-1 : Int32)) g_F g_R g_C g_L m_rl m_lf m_ov m_pl g_S g_O g_Y g_H m_st g_W m_rm m_fs g_M) H := hP
    have hD : va_D A (mo_W q6 qA qB qF qR qC qL qS qO qY qH qW qM cyI cyJ cyZ m_th m_o m_f m_r m_b m_a u_F (upd u_R ((1 : Int32)).toNatClampNeg (-1 : Int32)) g_F g_R g_C g_L m_rl m_lf m_ov m_pl g_S g_O g_Y g_H m_st g_W m_rm m_fs g_M) := hD
    refine lv_iinc (v := (2 : Int32)) (lv' := [(4, .int (2 : Int32)), (0, .ref q6)]) hx hb dX6_size_102 hl (k := 1) rfl (by decide +kernel) (by decide) rfl (fun ls hl => ?_)
    refine lv_goto (tgt := 88) hx hb dX6_size_105 (by decide) ?_
    exact Ks88_2  m_th m_o m_f m_r u_F (upd u_R ((1 : Int32)).toNatClampNeg (-1 : Int32)) g_F g_R g_C g_L m_rl m_lf m_ov m_pl  H locs ls hP hD hS (lv_sub hl [1, 0] rfl) hR
  have Ks88_0 : ∀  (m_th : Int32) (m_o : Int32) (m_f : Int32) (m_r : Int32) (u_F : Nat → Int32) (u_R : Nat → Int32) (g_F : Nat → Int32) (g_R : Nat → Int32) (g_C : Nat → Int32) (g_L : Nat → Int32) (m_rl : Int32) (m_lf : Int32) (m_ov : Int32) (m_pl : Int64)  (H : Heap) (locs : List Loc) (ls : Array Slot), va_P (dC, dI) kcl (mo_W q6 qA qB qF qR qC qL qS qO qY qH qW qM cyI cyJ cyZ m_th m_o m_f m_r m_b m_a u_F u_R g_F g_R g_C g_L m_rl m_lf m_ov m_pl g_S g_O g_Y g_H m_st g_W m_rm m_fs g_M) H → va_D A (mo_W q6 qA qB qF qR qC qL qS qO qY qH qW qM cyI cyJ cyZ m_th m_o m_f m_r m_b m_a u_F u_R g_F g_R g_C g_L m_rl m_lf m_ov m_pl g_S g_O g_Y g_H m_st g_W m_rm m_fs g_M) → va_S A s.heap H locs → lv_has ls 5 [(0, .ref q6), (4, .int (0 : Int32))] → cf_X6_size_s88_0  m_th m_o m_f m_r m_a u_F u_R g_F g_R g_C g_L m_rl m_lf m_ov m_pl  = R → W p l e (headSpec wsX6_size ({ frames := 2, cells := 0, slots := 0, locals := 44 })).room s m ([.ref q6, .int a0, .int a1, .int a2] : List Value).toArray below meth c H locs 0 0 (MQ below (mu_Q none (dC, dI) kcl (mo_W q6 qA qB qF qR qC qL qS qO qY qH qW qM cyI cyJ cyZ R.1 R.2.1 R.2.2.1 R.2.2.2.1 m_b m_a R.2.2.2.2.1 R.2.2.2.2.2.1 R.2.2.2.2.2.2.1 R.2.2.2.2.2.2.2.1 R.2.2.2.2.2.2.2.2.1 R.2.2.2.2.2.2.2.2.2.1 R.2.2.2.2.2.2.2.2.2.2.1 R.2.2.2.2.2.2.2.2.2.2.2.1 R.2.2.2.2.2.2.2.2.2.2.2.2.1 R.2.2.2.2.2.2.2.2.2.2.2.2.2 g_S g_O g_Y g_H m_st g_W m_rm m_fs g_M) A) ([.ref q6, .int a0, .int a1, .int a2] : List Value).toArray s 0 0 A) (F0 m 88 ls []) := by
    intro  m_th m_o m_f m_r u_F u_R g_F g_R g_C g_L m_rl m_lf m_ov m_pl  H locs ls hP hD hS hl hR
    unfold cf_X6_size_s88_0 at hR
    refine lv_iload hx hb dX6_size_88 (lv_at hl 1 rfl) ?_
    refine lv_iconst (v := (3 : Int32)) hx hb dX6_size_90 (by decide +kernel) ?_
    refine lv_icmp_ge (tgt := 108) hx hb dX6_size_91 (by decide) (fun c_0 => absurd c_0 (by decide +kernel)) (fun _ => ?_)
    refine lv_aload_n hx hb dX6_size_94 rfl (lv_at hl 0 rfl) ?_
    refine va_get (D := (dC, dI)) (ci := 4) (v := .ref qB) (C := RX6) (T := TX6) (N := 25) hx hb hts h1_ hown hK hP 0 rfl rfl 7 (by decide) h5_ (fun _ h9 => h9) rfl dX6_size_95 ?_
    refine lv_iload hx hb dX6_size_98 (lv_at hl 1 rfl) ?_
    refine lv_iconst (v := (-1 : Int32)) hx hb dX6_size_100 (by decide +kernel) ?_
    refine va_iast hx hb hK hP hD hS 2 0 rfl rfl (by unfold vp_in; decide +kernel) dX6_size_101 (fun H locs hP hD hS => ?_)
    have hP : va_P (dC, dI) kcl (mo_W q6 qA qB qF qR qC qL qS qO qY qH qW qM cyI cyJ cyZ m_th m_o m_f m_r m_b m_a u_F (upd u_R ((0 : Int32)).toNatClampNeg (-1 : Int32)) g_F g_R g_C g_L m_rl m_lf m_ov m_pl g_S g_O g_Y g_H m_st g_W m_rm m_fs g_M) H := hP
    have hD : va_D A (mo_W q6 qA qB qF qR qC qL qS qO qY qH qW qM cyI cyJ cyZ m_th m_o m_f m_r m_b m_a u_F (upd u_R ((0 : Int32)).toNatClampNeg (-1 : Int32)) g_F g_R g_C g_L m_rl m_lf m_ov m_pl g_S g_O g_Y g_H m_st g_W m_rm m_fs g_M) := hD
    refine lv_iinc (v := (1 : Int32)) (lv' := [(4, .int (1 : Int32)), (0, .ref q6)]) hx hb dX6_size_102 hl (k := 1) rfl (by decide +kernel) (by decide) rfl (fun ls hl => ?_)
    refine lv_goto (tgt := 88) hx hb dX6_size_105 (by decide) ?_
    exact Ks88_1  m_th m_o m_f m_r u_F (upd u_R ((0 : Int32)).toNatClampNeg (-1 : Int32)) g_F g_R g_C g_L m_rl m_lf m_ov m_pl  H locs ls hP hD hS (lv_sub hl [1, 0] rfl) hR
  have Ks61_8 : ∀  (m_th : Int32) (m_o : Int32) (m_f : Int32) (m_r : Int32) (u_F : Nat → Int32) (u_R : Nat → Int32) (g_F : Nat → Int32) (g_R : Nat → Int32) (g_C : Nat → Int32) (g_L : Nat → Int32) (m_rl : Int32) (m_lf : Int32) (m_ov : Int32) (m_pl : Int64)  (H : Heap) (locs : List Loc) (ls : Array Slot), va_P (dC, dI) kcl (mo_W q6 qA qB qF qR qC qL qS qO qY qH qW qM cyI cyJ cyZ m_th m_o m_f m_r m_b m_a u_F u_R g_F g_R g_C g_L m_rl m_lf m_ov m_pl g_S g_O g_Y g_H m_st g_W m_rm m_fs g_M) H → va_D A (mo_W q6 qA qB qF qR qC qL qS qO qY qH qW qM cyI cyJ cyZ m_th m_o m_f m_r m_b m_a u_F u_R g_F g_R g_C g_L m_rl m_lf m_ov m_pl g_S g_O g_Y g_H m_st g_W m_rm m_fs g_M) → va_S A s.heap H locs → lv_has ls 5 [(0, .ref q6), (4, .int (8 : Int32))] → cf_X6_size_s61_8  m_th m_o m_f m_r m_a u_F u_R g_F g_R g_C g_L m_rl m_lf m_ov m_pl  = R → W p l e (headSpec wsX6_size ({ frames := 2, cells := 0, slots := 0, locals := 44 })).room s m ([.ref q6, .int a0, .int a1, .int a2] : List Value).toArray below meth c H locs 0 0 (MQ below (mu_Q none (dC, dI) kcl (mo_W q6 qA qB qF qR qC qL qS qO qY qH qW qM cyI cyJ cyZ R.1 R.2.1 R.2.2.1 R.2.2.2.1 m_b m_a R.2.2.2.2.1 R.2.2.2.2.2.1 R.2.2.2.2.2.2.1 R.2.2.2.2.2.2.2.1 R.2.2.2.2.2.2.2.2.1 R.2.2.2.2.2.2.2.2.2.1 R.2.2.2.2.2.2.2.2.2.2.1 R.2.2.2.2.2.2.2.2.2.2.2.1 R.2.2.2.2.2.2.2.2.2.2.2.2.1 R.2.2.2.2.2.2.2.2.2.2.2.2.2 g_S g_O g_Y g_H m_st g_W m_rm m_fs g_M) A) ([.ref q6, .int a0, .int a1, .int a2] : List Value).toArray s 0 0 A) (F0 m 61 ls []) := by
    intro  m_th m_o m_f m_r u_F u_R g_F g_R g_C g_L m_rl m_lf m_ov m_pl  H locs ls hP hD hS hl hR
    unfold cf_X6_size_s61_8 at hR
    refine lv_iload hx hb dX6_size_61 (lv_at hl 1 rfl) ?_
    refine lv_aload_n hx hb dX6_size_63 rfl (lv_at hl 0 rfl) ?_
    refine va_get (D := (dC, dI)) (ci := 4) (v := .ref qA) (C := RX6) (T := TX6) (N := 25) hx hb hts h1_ hown hK hP 0 rfl rfl 6 (by decide) h4_ (fun _ h9 => h9) rfl dX6_size_64 ?_
    refine va_alen hx hb hK hP 1 0 rfl rfl (v := (8 : Int32)) rfl dX6_size_67 ?_
    refine lv_icmp_ge (tgt := 85) hx hb dX6_size_68 (by decide) (fun _ => ?_) (fun c_0 => absurd c_0 (by decide +kernel))
    refine lv_iconst (v := (0 : Int32)) hx hb dX6_size_85 (by decide +kernel) ?_
    refine lv_istore (lv' := [(4, .int (0 : Int32)), (0, .ref q6)]) hx hb dX6_size_86 hl (by decide) rfl (fun ls hl => ?_)
    exact Ks88_0  m_th m_o m_f m_r u_F u_R g_F g_R g_C g_L m_rl m_lf m_ov m_pl  H locs ls hP hD hS (lv_sub hl [1, 0] rfl) hR
  have Ks61_7 : ∀  (m_th : Int32) (m_o : Int32) (m_f : Int32) (m_r : Int32) (u_F : Nat → Int32) (u_R : Nat → Int32) (g_F : Nat → Int32) (g_R : Nat → Int32) (g_C : Nat → Int32) (g_L : Nat → Int32) (m_rl : Int32) (m_lf : Int32) (m_ov : Int32) (m_pl : Int64)  (H : Heap) (locs : List Loc) (ls : Array Slot), va_P (dC, dI) kcl (mo_W q6 qA qB qF qR qC qL qS qO qY qH qW qM cyI cyJ cyZ m_th m_o m_f m_r m_b m_a u_F u_R g_F g_R g_C g_L m_rl m_lf m_ov m_pl g_S g_O g_Y g_H m_st g_W m_rm m_fs g_M) H → va_D A (mo_W q6 qA qB qF qR qC qL qS qO qY qH qW qM cyI cyJ cyZ m_th m_o m_f m_r m_b m_a u_F u_R g_F g_R g_C g_L m_rl m_lf m_ov m_pl g_S g_O g_Y g_H m_st g_W m_rm m_fs g_M) → va_S A s.heap H locs → lv_has ls 5 [(0, .ref q6), (4, .int (7 : Int32))] → cf_X6_size_s61_7  m_th m_o m_f m_r m_a u_F u_R g_F g_R g_C g_L m_rl m_lf m_ov m_pl  = R → W p l e (headSpec wsX6_size ({ frames := 2, cells := 0, slots := 0, locals := 44 })).room s m ([.ref q6, .int a0, .int a1, .int a2] : List Value).toArray below meth c H locs 0 0 (MQ below (mu_Q none (dC, dI) kcl (mo_W q6 qA qB qF qR qC qL qS qO qY qH qW qM cyI cyJ cyZ R.1 R.2.1 R.2.2.1 R.2.2.2.1 m_b m_a R.2.2.2.2.1 R.2.2.2.2.2.1 R.2.2.2.2.2.2.1 R.2.2.2.2.2.2.2.1 R.2.2.2.2.2.2.2.2.1 R.2.2.2.2.2.2.2.2.2.1 R.2.2.2.2.2.2.2.2.2.2.1 R.2.2.2.2.2.2.2.2.2.2.2.1 R.2.2.2.2.2.2.2.2.2.2.2.2.1 R.2.2.2.2.2.2.2.2.2.2.2.2.2 g_S g_O g_Y g_H m_st g_W m_rm m_fs g_M) A) ([.ref q6, .int a0, .int a1, .int a2] : List Value).toArray s 0 0 A) (F0 m 61 ls []) := by
    intro  m_th m_o m_f m_r u_F u_R g_F g_R g_C g_L m_rl m_lf m_ov m_pl  H locs ls hP hD hS hl hR
    unfold cf_X6_size_s61_7 at hR
    refine lv_iload hx hb dX6_size_61 (lv_at hl 1 rfl) ?_
    refine lv_aload_n hx hb dX6_size_63 rfl (lv_at hl 0 rfl) ?_
    refine va_get (D := (dC, dI)) (ci := 4) (v := .ref qA) (C := RX6) (T := TX6) (N := 25) hx hb hts h1_ hown hK hP 0 rfl rfl 6 (by decide) h4_ (fun _ h9 => h9) rfl dX6_size_64 ?_
    refine va_alen hx hb hK hP 1 0 rfl rfl (v := (8 : Int32)) rfl dX6_size_67 ?_
    refine lv_icmp_ge (tgt := 85) hx hb dX6_size_68 (by decide) (fun c_0 => absurd c_0 (by decide +kernel)) (fun _ => ?_)
    refine lv_aload_n hx hb dX6_size_71 rfl (lv_at hl 0 rfl) ?_
    refine va_get (D := (dC, dI)) (ci := 4) (v := .ref qA) (C := RX6) (T := TX6) (N := 25) hx hb hts h1_ hown hK hP 0 rfl rfl 6 (by decide) h4_ (fun _ h9 => h9) rfl dX6_size_72 ?_
    refine lv_iload hx hb dX6_size_75 (lv_at hl 1 rfl) ?_
    refine lv_iconst (v := (-1 : Int32)) hx hb dX6_size_77 (by decide +kernel) ?_
    refine va_iast hx hb hK hP hD hS 1 0 rfl rfl (by unfold vp_in; decide +kernel) dX6_size_78 (fun H locs hP hD hS => ?_)
    have hP : va_P (dC, dI) kcl (mo_W q6 qA qB qF qR qC qL qS qO qY qH qW qM cyI cyJ cyZ m_th m_o m_f m_r m_b m_a (upd u_F ((7 : Int32)).toNatClampNeg (-1 : Int32)) u_R g_F g_R g_C g_L m_rl m_lf m_ov m_pl g_S g_O g_Y g_H m_st g_W m_rm m_fs g_M) H := hP
    have hD : va_D A (mo_W q6 qA qB qF qR qC qL qS qO qY qH qW qM cyI cyJ cyZ m_th m_o m_f m_r m_b m_a (upd u_F ((7 : Int32)).toNatClampNeg (-1 : Int32)) u_R g_F g_R g_C g_L m_rl m_lf m_ov m_pl g_S g_O g_Y g_H m_st g_W m_rm m_fs g_M) := hD
    refine lv_iinc (v := (8 : Int32)) (lv' := [(4, .int (8 : Int32)), (0, .ref q6)]) hx hb dX6_size_79 hl (k := 1) rfl (by decide +kernel) (by decide) rfl (fun ls hl => ?_)
    refine lv_goto (tgt := 61) hx hb dX6_size_82 (by decide) ?_
    exact Ks61_8  m_th m_o m_f m_r (upd u_F ((7 : Int32)).toNatClampNeg (-1 : Int32)) u_R g_F g_R g_C g_L m_rl m_lf m_ov m_pl  H locs ls hP hD hS (lv_sub hl [1, 0] rfl) hR
  have Ks61_6 : ∀  (m_th : Int32) (m_o : Int32) (m_f : Int32) (m_r : Int32) (u_F : Nat → Int32) (u_R : Nat → Int32) (g_F : Nat → Int32) (g_R : Nat → Int32) (g_C : Nat → Int32) (g_L : Nat → Int32) (m_rl : Int32) (m_lf : Int32) (m_ov : Int32) (m_pl : Int64)  (H : Heap) (locs : List Loc) (ls : Array Slot), va_P (dC, dI) kcl (mo_W q6 qA qB qF qR qC qL qS qO qY qH qW qM cyI cyJ cyZ m_th m_o m_f m_r m_b m_a u_F u_R g_F g_R g_C g_L m_rl m_lf m_ov m_pl g_S g_O g_Y g_H m_st g_W m_rm m_fs g_M) H → va_D A (mo_W q6 qA qB qF qR qC qL qS qO qY qH qW qM cyI cyJ cyZ m_th m_o m_f m_r m_b m_a u_F u_R g_F g_R g_C g_L m_rl m_lf m_ov m_pl g_S g_O g_Y g_H m_st g_W m_rm m_fs g_M) → va_S A s.heap H locs → lv_has ls 5 [(0, .ref q6), (4, .int (6 : Int32))] → cf_X6_size_s61_6  m_th m_o m_f m_r m_a u_F u_R g_F g_R g_C g_L m_rl m_lf m_ov m_pl  = R → W p l e (headSpec wsX6_size ({ frames := 2, cells := 0, slots := 0, locals := 44 })).room s m ([.ref q6, .int a0, .int a1, .int a2] : List Value).toArray below meth c H locs 0 0 (MQ below (mu_Q none (dC, dI) kcl (mo_W q6 qA qB qF qR qC qL qS qO qY qH qW qM cyI cyJ cyZ R.1 R.2.1 R.2.2.1 R.2.2.2.1 m_b m_a R.2.2.2.2.1 R.2.2.2.2.2.1 R.2.2.2.2.2.2.1 R.2.2.2.2.2.2.2.1 R.2.2.2.2.2.2.2.2.1 R.2.2.2.2.2.2.2.2.2.1 R.2.2.2.2.2.2.2.2.2.2.1 R.2.2.2.2.2.2.2.2.2.2.2.1 R.2.2.2.2.2.2.2.2.2.2.2.2.1 R.2.2.2.2.2.2.2.2.2.2.2.2.2 g_S g_O g_Y g_H m_st g_W m_rm m_fs g_M) A) ([.ref q6, .int a0, .int a1, .int a2] : List Value).toArray s 0 0 A) (F0 m 61 ls []) := by
    intro  m_th m_o m_f m_r u_F u_R g_F g_R g_C g_L m_rl m_lf m_ov m_pl  H locs ls hP hD hS hl hR
    unfold cf_X6_size_s61_6 at hR
    refine lv_iload hx hb dX6_size_61 (lv_at hl 1 rfl) ?_
    refine lv_aload_n hx hb dX6_size_63 rfl (lv_at hl 0 rfl) ?_
    refine va_get (D := (dC, dI)) (ci := 4) (v := .ref qA) (C := RX6) (T := TX6) (N := 25) hx hb hts h1_ hown hK hP 0 rfl rfl 6 (by decide) h4_ (fun _ h9 => h9) rfl dX6_size_64 ?_
    refine va_alen hx hb hK hP 1 0 rfl rfl (v := (8 : Int32)) rfl dX6_size_67 ?_
    refine lv_icmp_ge (tgt := 85) hx hb dX6_size_68 (by decide) (fun c_0 => absurd c_0 (by decide +kernel)) (fun _ => ?_)
    refine lv_aload_n hx hb dX6_size_71 rfl (lv_at hl 0 rfl) ?_
    refine va_get (D := (dC, dI)) (ci := 4) (v := .ref qA) (C := RX6) (T := TX6) (N := 25) hx hb hts h1_ hown hK hP 0 rfl rfl 6 (by decide) h4_ (fun _ h9 => h9) rfl dX6_size_72 ?_
    refine lv_iload hx hb dX6_size_75 (lv_at hl 1 rfl) ?_
    refine lv_iconst (v := (-1 : Int32)) hx hb dX6_size_77 (by decide +kernel) ?_
    refine va_iast hx hb hK hP hD hS 1 0 rfl rfl (by unfold vp_in; decide +kernel) dX6_size_78 (fun H locs hP hD hS => ?_)
    have hP : va_P (dC, dI) kcl (mo_W q6 qA qB qF qR qC qL qS qO qY qH qW qM cyI cyJ cyZ m_th m_o m_f m_r m_b m_a (upd u_F ((6 : Int32)).toNatClampNeg (-1 : Int32)) u_R g_F g_R g_C g_L m_rl m_lf m_ov m_pl g_S g_O g_Y g_H m_st g_W m_rm m_fs g_M) H := hP
    have hD : va_D A (mo_W q6 qA qB qF qR qC qL qS qO qY qH qW qM cyI cyJ cyZ m_th m_o m_f m_r m_b m_a (upd u_F ((6 : Int32)).toNatClampNeg (-1 : Int32)) u_R g_F g_R g_C g_L m_rl m_lf m_ov m_pl g_S g_O g_Y g_H m_st g_W m_rm m_fs g_M) := hD
    refine lv_iinc (v := (7 : Int32)) (lv' := [(4, .int (7 : Int32)), (0, .ref q6)]) hx hb dX6_size_79 hl (k := 1) rfl (by decide +kernel) (by decide) rfl (fun ls hl => ?_)
    refine lv_goto (tgt := 61) hx hb dX6_size_82 (by decide) ?_
    exact Ks61_7  m_th m_o m_f m_r (upd u_F ((6 : Int32)).toNatClampNeg (-1 : Int32)) u_R g_F g_R g_C g_L m_rl m_lf m_ov m_pl  H locs ls hP hD hS (lv_sub hl [1, 0] rfl) hR
  have Ks61_5 : ∀  (m_th : Int32) (m_o : Int32) (m_f : Int32) (m_r : Int32) (u_F : Nat → Int32) (u_R : Nat → Int32) (g_F : Nat → Int32) (g_R : Nat → Int32) (g_C : Nat → Int32) (g_L : Nat → Int32) (m_rl : Int32) (m_lf : Int32) (m_ov : Int32) (m_pl : Int64)  (H : Heap) (locs : List Loc) (ls : Array Slot), va_P (dC, dI) kcl (mo_W q6 qA qB qF qR qC qL qS qO qY qH qW qM cyI cyJ cyZ m_th m_o m_f m_r m_b m_a u_F u_R g_F g_R g_C g_L m_rl m_lf m_ov m_pl g_S g_O g_Y g_H m_st g_W m_rm m_fs g_M) H → va_D A (mo_W q6 qA qB qF qR qC qL qS qO qY qH qW qM cyI cyJ cyZ m_th m_o m_f m_r m_b m_a u_F u_R g_F g_R g_C g_L m_rl m_lf m_ov m_pl g_S g_O g_Y g_H m_st g_W m_rm m_fs g_M) → va_S A s.heap H locs → lv_has ls 5 [(0, .ref q6), (4, .int (5 : Int32))] → cf_X6_size_s61_5  m_th m_o m_f m_r m_a u_F u_R g_F g_R g_C g_L m_rl m_lf m_ov m_pl  = R → W p l e (headSpec wsX6_size ({ frames := 2, cells := 0, slots := 0, locals := 44 })).room s m ([.ref q6, .int a0, .int a1, .int a2] : List Value).toArray below meth c H locs 0 0 (MQ below (mu_Q none (dC, dI) kcl (mo_W q6 qA qB qF qR qC qL qS qO qY qH qW qM cyI cyJ cyZ R.1 R.2.1 R.2.2.1 R.2.2.2.1 m_b m_a R.2.2.2.2.1 R.2.2.2.2.2.1 R.2.2.2.2.2.2.1 R.2.2.2.2.2.2.2.1 R.2.2.2.2.2.2.2.2.1 R.2.2.2.2.2.2.2.2.2.1 R.2.2.2.2.2.2.2.2.2.2.1 R.2.2.2.2.2.2.2.2.2.2.2.1 R.2.2.2.2.2.2.2.2.2.2.2.2.1 R.2.2.2.2.2.2.2.2.2.2.2.2.2 g_S g_O g_Y g_H m_st g_W m_rm m_fs g_M) A) ([.ref q6, .int a0, .int a1, .int a2] : List Value).toArray s 0 0 A) (F0 m 61 ls []) := by
    intro  m_th m_o m_f m_r u_F u_R g_F g_R g_C g_L m_rl m_lf m_ov m_pl  H locs ls hP hD hS hl hR
    unfold cf_X6_size_s61_5 at hR
    refine lv_iload hx hb dX6_size_61 (lv_at hl 1 rfl) ?_
    refine lv_aload_n hx hb dX6_size_63 rfl (lv_at hl 0 rfl) ?_
    refine va_get (D := (dC, dI)) (ci := 4) (v := .ref qA) (C := RX6) (T := TX6) (N := 25) hx hb hts h1_ hown hK hP 0 rfl rfl 6 (by decide) h4_ (fun _ h9 => h9) rfl dX6_size_64 ?_
    refine va_alen hx hb hK hP 1 0 rfl rfl (v := (8 : Int32)) rfl dX6_size_67 ?_
    refine lv_icmp_ge (tgt := 85) hx hb dX6_size_68 (by decide) (fun c_0 => absurd c_0 (by decide +kernel)) (fun _ => ?_)
    refine lv_aload_n hx hb dX6_size_71 rfl (lv_at hl 0 rfl) ?_
    refine va_get (D := (dC, dI)) (ci := 4) (v := .ref qA) (C := RX6) (T := TX6) (N := 25) hx hb hts h1_ hown hK hP 0 rfl rfl 6 (by decide) h4_ (fun _ h9 => h9) rfl dX6_size_72 ?_
    refine lv_iload hx hb dX6_size_75 (lv_at hl 1 rfl) ?_
    refine lv_iconst (v := (-1 : Int32)) hx hb dX6_size_77 (by decide +kernel) ?_
    refine va_iast hx hb hK hP hD hS 1 0 rfl rfl (by unfold vp_in; decide +kernel) dX6_size_78 (fun H locs hP hD hS => ?_)
    have hP : va_P (dC, dI) kcl (mo_W q6 qA qB qF qR qC qL qS qO qY qH qW qM cyI cyJ cyZ m_th m_o m_f m_r m_b m_a (upd u_F ((5 : Int32)).toNatClampNeg (-1 : Int32)) u_R g_F g_R g_C g_L m_rl m_lf m_ov m_pl g_S g_O g_Y g_H m_st g_W m_rm m_fs g_M) H := hP
    have hD : va_D A (mo_W q6 qA qB qF qR qC qL qS qO qY qH qW qM cyI cyJ cyZ m_th m_o m_f m_r m_b m_a (upd u_F ((5 : Int32)).toNatClampNeg (-1 : Int32)) u_R g_F g_R g_C g_L m_rl m_lf m_ov m_pl g_S g_O g_Y g_H m_st g_W m_rm m_fs g_M) := hD
    refine lv_iinc (v := (6 : Int32)) (lv' := [(4, .int (6 : Int32)), (0, .ref q6)]) hx hb dX6_size_79 hl (k := 1) rfl (by decide +kernel) (by decide) rfl (fun ls hl => ?_)
    refine lv_goto (tgt := 61) hx hb dX6_size_82 (by decide) ?_
    exact Ks61_6  m_th m_o m_f m_r (upd u_F ((5 : Int32)).toNatClampNeg (-1 : Int32)) u_R g_F g_R g_C g_L m_rl m_lf m_ov m_pl  H locs ls hP hD hS (lv_sub hl [1, 0] rfl) hR
  have Ks61_4 : ∀  (m_th : Int32) (m_o : Int32) (m_f : Int32) (m_r : Int32) (u_F : Nat → Int32) (u_R : Nat → Int32) (g_F : Nat → Int32) (g_R : Nat → Int32) (g_C : Nat → Int32) (g_L : Nat → Int32) (m_rl : Int32) (m_lf : Int32) (m_ov : Int32) (m_pl : Int64)  (H : Heap) (locs : List Loc) (ls : Array Slot), va_P (dC, dI) kcl (mo_W q6 qA qB qF qR qC qL qS qO qY qH qW qM cyI cyJ cyZ m_th m_o m_f m_r m_b m_a u_F u_R g_F g_R g_C g_L m_rl m_lf m_ov m_pl g_S g_O g_Y g_H m_st g_W m_rm m_fs g_M) H → va_D A (mo_W q6 qA qB qF qR qC qL qS qO qY qH qW qM cyI cyJ cyZ m_th m_o m_f m_r m_b m_a u_F u_R g_F g_R g_C g_L m_rl m_lf m_ov m_pl g_S g_O g_Y g_H m_st g_W m_rm m_fs g_M) → va_S A s.heap H locs → lv_has ls 5 [(0, .ref q6), (4, .int (4 : Int32))] → cf_X6_size_s61_4  m_th m_o m_f m_r m_a u_F u_R g_F g_R g_C g_L m_rl m_lf m_ov m_pl  = R → W p l e (headSpec wsX6_size ({ frames := 2, cells := 0, slots := 0, locals := 44 })).room s m ([.ref q6, .int a0, .int a1, .int a2] : List Value).toArray below meth c H locs 0 0 (MQ below (mu_Q none (dC, dI) kcl (mo_W q6 qA qB qF qR qC qL qS qO qY qH qW qM cyI cyJ cyZ R.1 R.2.1 R.2.2.1 R.2.2.2.1 m_b m_a R.2.2.2.2.1 R.2.2.2.2.2.1 R.2.2.2.2.2.2.1 R.2.2.2.2.2.2.2.1 R.2.2.2.2.2.2.2.2.1 R.2.2.2.2.2.2.2.2.2.1 R.2.2.2.2.2.2.2.2.2.2.1 R.2.2.2.2.2.2.2.2.2.2.2.1 R.2.2.2.2.2.2.2.2.2.2.2.2.1 R.2.2.2.2.2.2.2.2.2.2.2.2.2 g_S g_O g_Y g_H m_st g_W m_rm m_fs g_M) A) ([.ref q6, .int a0, .int a1, .int a2] : List Value).toArray s 0 0 A) (F0 m 61 ls []) := by
    intro  m_th m_o m_f m_r u_F u_R g_F g_R g_C g_L m_rl m_lf m_ov m_pl  H locs ls hP hD hS hl hR
    unfold cf_X6_size_s61_4 at hR
    refine lv_iload hx hb dX6_size_61 (lv_at hl 1 rfl) ?_
    refine lv_aload_n hx hb dX6_size_63 rfl (lv_at hl 0 rfl) ?_
    refine va_get (D := (dC, dI)) (ci := 4) (v := .ref qA) (C := RX6) (T := TX6) (N := 25) hx hb hts h1_ hown hK hP 0 rfl rfl 6 (by decide) h4_ (fun _ h9 => h9) rfl dX6_size_64 ?_
    refine va_alen hx hb hK hP 1 0 rfl rfl (v := (8 : Int32)) rfl dX6_size_67 ?_
    refine lv_icmp_ge (tgt := 85) hx hb dX6_size_68 (by decide) (fun c_0 => absurd c_0 (by decide +kernel)) (fun _ => ?_)
    refine lv_aload_n hx hb dX6_size_71 rfl (lv_at hl 0 rfl) ?_
    refine va_get (D := (dC, dI)) (ci := 4) (v := .ref qA) (C := RX6) (T := TX6) (N := 25) hx hb hts h1_ hown hK hP 0 rfl rfl 6 (by decide) h4_ (fun _ h9 => h9) rfl dX6_size_72 ?_
    refine lv_iload hx hb dX6_size_75 (lv_at hl 1 rfl) ?_
    refine lv_iconst (v := (-1 : Int32)) hx hb dX6_size_77 (by decide +kernel) ?_
    refine va_iast hx hb hK hP hD hS 1 0 rfl rfl (by unfold vp_in; decide +kernel) dX6_size_78 (fun H locs hP hD hS => ?_)
    have hP : va_P (dC, dI) kcl (mo_W q6 qA qB qF qR qC qL qS qO qY qH qW qM cyI cyJ cyZ m_th m_o m_f m_r m_b m_a (upd u_F ((4 : Int32)).toNatClampNeg (-1 : Int32)) u_R g_F g_R g_C g_L m_rl m_lf m_ov m_pl g_S g_O g_Y g_H m_st g_W m_rm m_fs g_M) H := hP
    have hD : va_D A (mo_W q6 qA qB qF qR qC qL qS qO qY qH qW qM cyI cyJ cyZ m_th m_o m_f m_r m_b m_a (upd u_F ((4 : Int32)).toNatClampNeg (-1 : Int32)) u_R g_F g_R g_C g_L m_rl m_lf m_ov m_pl g_S g_O g_Y g_H m_st g_W m_rm m_fs g_M) := hD
    refine lv_iinc (v := (5 : Int32)) (lv' := [(4, .int (5 : Int32)), (0, .ref q6)]) hx hb dX6_size_79 hl (k := 1) rfl (by decide +kernel) (by decide) rfl (fun ls hl => ?_)
    refine lv_goto (tgt := 61) hx hb dX6_size_82 (by decide) ?_
    exact Ks61_5  m_th m_o m_f m_r (upd u_F ((4 : Int32)).toNatClampNeg (-1 : Int32)) u_R g_F g_R g_C g_L m_rl m_lf m_ov m_pl  H locs ls hP hD hS (lv_sub hl [1, 0] rfl) hR
  have Ks61_3 : ∀  (m_th : Int32) (m_o : Int32) (m_f : Int32) (m_r : Int32) (u_F : Nat → Int32) (u_R : Nat → Int32) (g_F : Nat → Int32) (g_R : Nat → Int32) (g_C : Nat → Int32) (g_L : Nat → Int32) (m_rl : Int32) (m_lf : Int32) (m_ov : Int32) (m_pl : Int64)  (H : Heap) (locs : List Loc) (ls : Array Slot), va_P (dC, dI) kcl (mo_W q6 qA qB qF qR qC qL qS qO qY qH qW qM cyI cyJ cyZ m_th m_o m_f m_r m_b m_a u_F u_R g_F g_R g_C g_L m_rl m_lf m_ov m_pl g_S g_O g_Y g_H m_st g_W m_rm m_fs g_M) H → va_D A (mo_W q6 qA qB qF qR qC qL qS qO qY qH qW qM cyI cyJ cyZ m_th m_o m_f m_r m_b m_a u_F u_R g_F g_R g_C g_L m_rl m_lf m_ov m_pl g_S g_O g_Y g_H m_st g_W m_rm m_fs g_M) → va_S A s.heap H locs → lv_has ls 5 [(0, .ref q6), (4, .int (3 : Int32))] → cf_X6_size_s61_3  m_th m_o m_f m_r m_a u_F u_R g_F g_R g_C g_L m_rl m_lf m_ov m_pl  = R → W p l e (headSpec wsX6_size ({ frames := 2, cells := 0, slots := 0, locals := 44 })).room s m ([.ref q6, .int a0, .int a1, .int a2] : List Value).toArray below meth c H locs 0 0 (MQ below (mu_Q none (dC, dI) kcl (mo_W q6 qA qB qF qR qC qL qS qO qY qH qW qM cyI cyJ cyZ R.1 R.2.1 R.2.2.1 R.2.2.2.1 m_b m_a R.2.2.2.2.1 R.2.2.2.2.2.1 R.2.2.2.2.2.2.1 R.2.2.2.2.2.2.2.1 R.2.2.2.2.2.2.2.2.1 R.2.2.2.2.2.2.2.2.2.1 R.2.2.2.2.2.2.2.2.2.2.1 R.2.2.2.2.2.2.2.2.2.2.2.1 R.2.2.2.2.2.2.2.2.2.2.2.2.1 R.2.2.2.2.2.2.2.2.2.2.2.2.2 g_S g_O g_Y g_H m_st g_W m_rm m_fs g_M) A) ([.ref q6, .int a0, .int a1, .int a2] : List Value).toArray s 0 0 A) (F0 m 61 ls []) := by
    intro  m_th m_o m_f m_r u_F u_R g_F g_R g_C g_L m_rl m_lf m_ov m_pl  H locs ls hP hD hS hl hR
    unfold cf_X6_size_s61_3 at hR
    refine lv_iload hx hb dX6_size_61 (lv_at hl 1 rfl) ?_
    refine lv_aload_n hx hb dX6_size_63 rfl (lv_at hl 0 rfl) ?_
    refine va_get (D := (dC, dI)) (ci := 4) (v := .ref qA) (C := RX6) (T := TX6) (N := 25) hx hb hts h1_ hown hK hP 0 rfl rfl 6 (by decide) h4_ (fun _ h9 => h9) rfl dX6_size_64 ?_
    refine va_alen hx hb hK hP 1 0 rfl rfl (v := (8 : Int32)) rfl dX6_size_67 ?_
    refine lv_icmp_ge (tgt := 85) hx hb dX6_size_68 (by decide) (fun c_0 => absurd c_0 (by decide +kernel)) (fun _ => ?_)
    refine lv_aload_n hx hb dX6_size_71 rfl (lv_at hl 0 rfl) ?_
    refine va_get (D := (dC, dI)) (ci := 4) (v := .ref qA) (C := RX6) (T := TX6) (N := 25) hx hb hts h1_ hown hK hP 0 rfl rfl 6 (by decide) h4_ (fun _ h9 => h9) rfl dX6_size_72 ?_
    refine lv_iload hx hb dX6_size_75 (lv_at hl 1 rfl) ?_
    refine lv_iconst (v := (-1 : Int32)) hx hb dX6_size_77 (by decide +kernel) ?_
    refine va_iast hx hb hK hP hD hS 1 0 rfl rfl (by unfold vp_in; decide +kernel) dX6_size_78 (fun H locs hP hD hS => ?_)
    have hP : va_P (dC, dI) kcl (mo_W q6 qA qB qF qR qC qL qS qO qY qH qW qM cyI cyJ cyZ m_th m_o m_f m_r m_b m_a (upd u_F ((3 : Int32)).toNatClampNeg (-1 : Int32)) u_R g_F g_R g_C g_L m_rl m_lf m_ov m_pl g_S g_O g_Y g_H m_st g_W m_rm m_fs g_M) H := hP
    have hD : va_D A (mo_W q6 qA qB qF qR qC qL qS qO qY qH qW qM cyI cyJ cyZ m_th m_o m_f m_r m_b m_a (upd u_F ((3 : Int32)).toNatClampNeg (-1 : Int32)) u_R g_F g_R g_C g_L m_rl m_lf m_ov m_pl g_S g_O g_Y g_H m_st g_W m_rm m_fs g_M) := hD
    refine lv_iinc (v := (4 : Int32)) (lv' := [(4, .int (4 : Int32)), (0, .ref q6)]) hx hb dX6_size_79 hl (k := 1) rfl (by decide +kernel) (by decide) rfl (fun ls hl => ?_)
    refine lv_goto (tgt := 61) hx hb dX6_size_82 (by decide) ?_
    exact Ks61_4  m_th m_o m_f m_r (upd u_F ((3 : Int32)).toNatClampNeg (-1 : Int32)) u_R g_F g_R g_C g_L m_rl m_lf m_ov m_pl  H locs ls hP hD hS (lv_sub hl [1, 0] rfl) hR
  have Ks61_2 : ∀  (m_th : Int32) (m_o : Int32) (m_f : Int32) (m_r : Int32) (u_F : Nat → Int32) (u_R : Nat → Int32) (g_F : Nat → Int32) (g_R : Nat → Int32) (g_C : Nat → Int32) (g_L : Nat → Int32) (m_rl : Int32) (m_lf : Int32) (m_ov : Int32) (m_pl : Int64)  (H : Heap) (locs : List Loc) (ls : Array Slot), va_P (dC, dI) kcl (mo_W q6 qA qB qF qR qC qL qS qO qY qH qW qM cyI cyJ cyZ m_th m_o m_f m_r m_b m_a u_F u_R g_F g_R g_C g_L m_rl m_lf m_ov m_pl g_S g_O g_Y g_H m_st g_W m_rm m_fs g_M) H → va_D A (mo_W q6 qA qB qF qR qC qL qS qO qY qH qW qM cyI cyJ cyZ m_th m_o m_f m_r m_b m_a u_F u_R g_F g_R g_C g_L m_rl m_lf m_ov m_pl g_S g_O g_Y g_H m_st g_W m_rm m_fs g_M) → va_S A s.heap H locs → lv_has ls 5 [(0, .ref q6), (4, .int (2 : Int32))] → cf_X6_size_s61_2  m_th m_o m_f m_r m_a u_F u_R g_F g_R g_C g_L m_rl m_lf m_ov m_pl  = R → W p l e (headSpec wsX6_size ({ frames := 2, cells := 0, slots := 0, locals := 44 })).room s m ([.ref q6, .int a0, .int a1, .int a2] : List Value).toArray below meth c H locs 0 0 (MQ below (mu_Q none (dC, dI) kcl (mo_W q6 qA qB qF qR qC qL qS qO qY qH qW qM cyI cyJ cyZ R.1 R.2.1 R.2.2.1 R.2.2.2.1 m_b m_a R.2.2.2.2.1 R.2.2.2.2.2.1 R.2.2.2.2.2.2.1 R.2.2.2.2.2.2.2.1 R.2.2.2.2.2.2.2.2.1 R.2.2.2.2.2.2.2.2.2.1 R.2.2.2.2.2.2.2.2.2.2.1 R.2.2.2.2.2.2.2.2.2.2.2.1 R.2.2.2.2.2.2.2.2.2.2.2.2.1 R.2.2.2.2.2.2.2.2.2.2.2.2.2 g_S g_O g_Y g_H m_st g_W m_rm m_fs g_M) A) ([.ref q6, .int a0, .int a1, .int a2] : List Value).toArray s 0 0 A) (F0 m 61 ls []) := by
    intro  m_th m_o m_f m_r u_F u_R g_F g_R g_C g_L m_rl m_lf m_ov m_pl  H locs ls hP hD hS hl hR
    unfold cf_X6_size_s61_2 at hR
    refine lv_iload hx hb dX6_size_61 (lv_at hl 1 rfl) ?_
    refine lv_aload_n hx hb dX6_size_63 rfl (lv_at hl 0 rfl) ?_
    refine va_get (D := (dC, dI)) (ci := 4) (v := .ref qA) (C := RX6) (T := TX6) (N := 25) hx hb hts h1_ hown hK hP 0 rfl rfl 6 (by decide) h4_ (fun _ h9 => h9) rfl dX6_size_64 ?_
    refine va_alen hx hb hK hP 1 0 rfl rfl (v := (8 : Int32)) rfl dX6_size_67 ?_
    refine lv_icmp_ge (tgt := 85) hx hb dX6_size_68 (by decide) (fun c_0 => absurd c_0 (by decide +kernel)) (fun _ => ?_)
    refine lv_aload_n hx hb dX6_size_71 rfl (lv_at hl 0 rfl) ?_
    refine va_get (D := (dC, dI)) (ci := 4) (v := .ref qA) (C := RX6) (T := TX6) (N := 25) hx hb hts h1_ hown hK hP 0 rfl rfl 6 (by decide) h4_ (fun _ h9 => h9) rfl dX6_size_72 ?_
    refine lv_iload hx hb dX6_size_75 (lv_at hl 1 rfl) ?_
    refine lv_iconst (v := (-1 : Int32)) hx hb dX6_size_77 (by decide +kernel) ?_
    refine va_iast hx hb hK hP hD hS 1 0 rfl rfl (by unfold vp_in; decide +kernel) dX6_size_78 (fun H locs hP hD hS => ?_)
    have hP : va_P (dC, dI) kcl (mo_W q6 qA qB qF qR qC qL qS qO qY qH qW qM cyI cyJ cyZ m_th m_o m_f m_r m_b m_a (upd u_F ((2 : Int32)).toNatClampNeg (-1 : Int32)) u_R g_F g_R g_C g_L m_rl m_lf m_ov m_pl g_S g_O g_Y g_H m_st g_W m_rm m_fs g_M) H := hP
    have hD : va_D A (mo_W q6 qA qB qF qR qC qL qS qO qY qH qW qM cyI cyJ cyZ m_th m_o m_f m_r m_b m_a (upd u_F ((2 : Int32)).toNatClampNeg (-1 : Int32)) u_R g_F g_R g_C g_L m_rl m_lf m_ov m_pl g_S g_O g_Y g_H m_st g_W m_rm m_fs g_M) := hD
    refine lv_iinc (v := (3 : Int32)) (lv' := [(4, .int (3 : Int32)), (0, .ref q6)]) hx hb dX6_size_79 hl (k := 1) rfl (by decide +kernel) (by decide) rfl (fun ls hl => ?_)
    refine lv_goto (tgt := 61) hx hb dX6_size_82 (by decide) ?_
    exact Ks61_3  m_th m_o m_f m_r (upd u_F ((2 : Int32)).toNatClampNeg (-1 : Int32)) u_R g_F g_R g_C g_L m_rl m_lf m_ov m_pl  H locs ls hP hD hS (lv_sub hl [1, 0] rfl) hR
  have Ks61_1 : ∀  (m_th : Int32) (m_o : Int32) (m_f : Int32) (m_r : Int32) (u_F : Nat → Int32) (u_R : Nat → Int32) (g_F : Nat → Int32) (g_R : Nat → Int32) (g_C : Nat → Int32) (g_L : Nat → Int32) (m_rl : Int32) (m_lf : Int32) (m_ov : Int32) (m_pl : Int64)  (H : Heap) (locs : List Loc) (ls : Array Slot), va_P (dC, dI) kcl (mo_W q6 qA qB qF qR qC qL qS qO qY qH qW qM cyI cyJ cyZ m_th m_o m_f m_r m_b m_a u_F u_R g_F g_R g_C g_L m_rl m_lf m_ov m_pl g_S g_O g_Y g_H m_st g_W m_rm m_fs g_M) H → va_D A (mo_W q6 qA qB qF qR qC qL qS qO qY qH qW qM cyI cyJ cyZ m_th m_o m_f m_r m_b m_a u_F u_R g_F g_R g_C g_L m_rl m_lf m_ov m_pl g_S g_O g_Y g_H m_st g_W m_rm m_fs g_M) → va_S A s.heap H locs → lv_has ls 5 [(0, .ref q6), (4, .int (1 : Int32))] → cf_X6_size_s61_1  m_th m_o m_f m_r m_a u_F u_R g_F g_R g_C g_L m_rl m_lf m_ov m_pl  = R → W p l e (headSpec wsX6_size ({ frames := 2, cells := 0, slots := 0, locals := 44 })).room s m ([.ref q6, .int a0, .int a1, .int a2] : List Value).toArray below meth c H locs 0 0 (MQ below (mu_Q none (dC, dI) kcl (mo_W q6 qA qB qF qR qC qL qS qO qY qH qW qM cyI cyJ cyZ R.1 R.2.1 R.2.2.1 R.2.2.2.1 m_b m_a R.2.2.2.2.1 R.2.2.2.2.2.1 R.2.2.2.2.2.2.1 R.2.2.2.2.2.2.2.1 R.2.2.2.2.2.2.2.2.1 R.2.2.2.2.2.2.2.2.2.1 R.2.2.2.2.2.2.2.2.2.2.1 R.2.2.2.2.2.2.2.2.2.2.2.1 R.2.2.2.2.2.2.2.2.2.2.2.2.1 R.2.2.2.2.2.2.2.2.2.2.2.2.2 g_S g_O g_Y g_H m_st g_W m_rm m_fs g_M) A) ([.ref q6, .int a0, .int a1, .int a2] : List Value).toArray s 0 0 A) (F0 m 61 ls []) := by
    intro  m_th m_o m_f m_r u_F u_R g_F g_R g_C g_L m_rl m_lf m_ov m_pl  H locs ls hP hD hS hl hR
    unfold cf_X6_size_s61_1 at hR
    refine lv_iload hx hb dX6_size_61 (lv_at hl 1 rfl) ?_
    refine lv_aload_n hx hb dX6_size_63 rfl (lv_at hl 0 rfl) ?_
    refine va_get (D := (dC, dI)) (ci := 4) (v := .ref qA) (C := RX6) (T := TX6) (N := 25) hx hb hts h1_ hown hK hP 0 rfl rfl 6 (by decide) h4_ (fun _ h9 => h9) rfl dX6_size_64 ?_
    refine va_alen hx hb hK hP 1 0 rfl rfl (v := (8 : Int32)) rfl dX6_size_67 ?_
    refine lv_icmp_ge (tgt := 85) hx hb dX6_size_68 (by decide) (fun c_0 => absurd c_0 (by decide +kernel)) (fun _ => ?_)
    refine lv_aload_n hx hb dX6_size_71 rfl (lv_at hl 0 rfl) ?_
    refine va_get (D := (dC, dI)) (ci := 4) (v := .ref qA) (C := RX6) (T := TX6) (N := 25) hx hb hts h1_ hown hK hP 0 rfl rfl 6 (by decide) h4_ (fun _ h9 => h9) rfl dX6_size_72 ?_
    refine lv_iload hx hb dX6_size_75 (lv_at hl 1 rfl) ?_
    refine lv_iconst (v := (-1 : Int32)) hx hb dX6_size_77 (by decide +kernel) ?_
    refine va_iast hx hb hK hP hD hS 1 0 rfl rfl (by unfold vp_in; decide +kernel) dX6_size_78 (fun H locs hP hD hS => ?_)
    have hP : va_P (dC, dI) kcl (mo_W q6 qA qB qF qR qC qL qS qO qY qH qW qM cyI cyJ cyZ m_th m_o m_f m_r m_b m_a (upd u_F ((1 : Int32)).toNatClampNeg (-1 : Int32)) u_R g_F g_R g_C g_L m_rl m_lf m_ov m_pl g_S g_O g_Y g_H m_st g_W m_rm m_fs g_M) H := hP
    have hD : va_D A (mo_W q6 qA qB qF qR qC qL qS qO qY qH qW qM cyI cyJ cyZ m_th m_o m_f m_r m_b m_a (upd u_F ((1 : Int32)).toNatClampNeg (-1 : Int32)) u_R g_F g_R g_C g_L m_rl m_lf m_ov m_pl g_S g_O g_Y g_H m_st g_W m_rm m_fs g_M) := hD
    refine lv_iinc (v := (2 : Int32)) (lv' := [(4, .int (2 : Int32)), (0, .ref q6)]) hx hb dX6_size_79 hl (k := 1) rfl (by decide +kernel) (by decide) rfl (fun ls hl => ?_)
    refine lv_goto (tgt := 61) hx hb dX6_size_82 (by decide) ?_
    exact Ks61_2  m_th m_o m_f m_r (upd u_F ((1 : Int32)).toNatClampNeg (-1 : Int32)) u_R g_F g_R g_C g_L m_rl m_lf m_ov m_pl  H locs ls hP hD hS (lv_sub hl [1, 0] rfl) hR
  have Ks61_0 : ∀  (m_th : Int32) (m_o : Int32) (m_f : Int32) (m_r : Int32) (u_F : Nat → Int32) (u_R : Nat → Int32) (g_F : Nat → Int32) (g_R : Nat → Int32) (g_C : Nat → Int32) (g_L : Nat → Int32) (m_rl : Int32) (m_lf : Int32) (m_ov : Int32) (m_pl : Int64)  (H : Heap) (locs : List Loc) (ls : Array Slot), va_P (dC, dI) kcl (mo_W q6 qA qB qF qR qC qL qS qO qY qH qW qM cyI cyJ cyZ m_th m_o m_f m_r m_b m_a u_F u_R g_F g_R g_C g_L m_rl m_lf m_ov m_pl g_S g_O g_Y g_H m_st g_W m_rm m_fs g_M) H → va_D A (mo_W q6 qA qB qF qR qC qL qS qO qY qH qW qM cyI cyJ cyZ m_th m_o m_f m_r m_b m_a u_F u_R g_F g_R g_C g_L m_rl m_lf m_ov m_pl g_S g_O g_Y g_H m_st g_W m_rm m_fs g_M) → va_S A s.heap H locs → lv_has ls 5 [(0, .ref q6), (4, .int (0 : Int32))] → cf_X6_size_s61_0  m_th m_o m_f m_r m_a u_F u_R g_F g_R g_C g_L m_rl m_lf m_ov m_pl  = R → W p l e (headSpec wsX6_size ({ frames := 2, cells := 0, slots := 0, locals := 44 })).room s m ([.ref q6, .int a0, .int a1, .int a2] : List Value).toArray below meth c H locs 0 0 (MQ below (mu_Q none (dC, dI) kcl (mo_W q6 qA qB qF qR qC qL qS qO qY qH qW qM cyI cyJ cyZ R.1 R.2.1 R.2.2.1 R.2.2.2.1 m_b m_a R.2.2.2.2.1 R.2.2.2.2.2.1 R.2.2.2.2.2.2.1 R.2.2.2.2.2.2.2.1 R.2.2.2.2.2.2.2.2.1 R.2.2.2.2.2.2.2.2.2.1 R.2.2.2.2.2.2.2.2.2.2.1 R.2.2.2.2.2.2.2.2.2.2.2.1 R.2.2.2.2.2.2.2.2.2.2.2.2.1 R.2.2.2.2.2.2.2.2.2.2.2.2.2 g_S g_O g_Y g_H m_st g_W m_rm m_fs g_M) A) ([.ref q6, .int a0, .int a1, .int a2] : List Value).toArray s 0 0 A) (F0 m 61 ls []) := by
    intro  m_th m_o m_f m_r u_F u_R g_F g_R g_C g_L m_rl m_lf m_ov m_pl  H locs ls hP hD hS hl hR
    unfold cf_X6_size_s61_0 at hR
    refine lv_iload hx hb dX6_size_61 (lv_at hl 1 rfl) ?_
    refine lv_aload_n hx hb dX6_size_63 rfl (lv_at hl 0 rfl) ?_
    refine va_get (D := (dC, dI)) (ci := 4) (v := .ref qA) (C := RX6) (T := TX6) (N := 25) hx hb hts h1_ hown hK hP 0 rfl rfl 6 (by decide) h4_ (fun _ h9 => h9) rfl dX6_size_64 ?_
    refine va_alen hx hb hK hP 1 0 rfl rfl (v := (8 : Int32)) rfl dX6_size_67 ?_
    refine lv_icmp_ge (tgt := 85) hx hb dX6_size_68 (by decide) (fun c_0 => absurd c_0 (by decide +kernel)) (fun _ => ?_)
    refine lv_aload_n hx hb dX6_size_71 rfl (lv_at hl 0 rfl) ?_
    refine va_get (D := (dC, dI)) (ci := 4) (v := .ref qA) (C := RX6) (T := TX6) (N := 25) hx hb hts h1_ hown hK hP 0 rfl rfl 6 (by decide) h4_ (fun _ h9 => h9) rfl dX6_size_72 ?_
    refine lv_iload hx hb dX6_size_75 (lv_at hl 1 rfl) ?_
    refine lv_iconst (v := (-1 : Int32)) hx hb dX6_size_77 (by decide +kernel) ?_
    refine va_iast hx hb hK hP hD hS 1 0 rfl rfl (by unfold vp_in; decide +kernel) dX6_size_78 (fun H locs hP hD hS => ?_)
    have hP : va_P (dC, dI) kcl (mo_W q6 qA qB qF qR qC qL qS qO qY qH qW qM cyI cyJ cyZ m_th m_o m_f m_r m_b m_a (upd u_F ((0 : Int32)).toNatClampNeg (-1 : Int32)) u_R g_F g_R g_C g_L m_rl m_lf m_ov m_pl g_S g_O g_Y g_H m_st g_W m_rm m_fs g_M) H := hP
    have hD : va_D A (mo_W q6 qA qB qF qR qC qL qS qO qY qH qW qM cyI cyJ cyZ m_th m_o m_f m_r m_b m_a (upd u_F ((0 : Int32)).toNatClampNeg (-1 : Int32)) u_R g_F g_R g_C g_L m_rl m_lf m_ov m_pl g_S g_O g_Y g_H m_st g_W m_rm m_fs g_M) := hD
    refine lv_iinc (v := (1 : Int32)) (lv' := [(4, .int (1 : Int32)), (0, .ref q6)]) hx hb dX6_size_79 hl (k := 1) rfl (by decide +kernel) (by decide) rfl (fun ls hl => ?_)
    refine lv_goto (tgt := 61) hx hb dX6_size_82 (by decide) ?_
    exact Ks61_1  m_th m_o m_f m_r (upd u_F ((0 : Int32)).toNatClampNeg (-1 : Int32)) u_R g_F g_R g_C g_L m_rl m_lf m_ov m_pl  H locs ls hP hD hS (lv_sub hl [1, 0] rfl) hR
  have Ks36 : ∀  (m_th : Int32) (m_o : Int32) (m_f : Int32) (m_r : Int32) (u_F : Nat → Int32) (u_R : Nat → Int32) (g_F : Nat → Int32) (g_R : Nat → Int32) (g_C : Nat → Int32) (g_L : Nat → Int32) (m_rl : Int32) (m_lf : Int32) (m_ov : Int32) (m_pl : Int64) (x1 : Int32) (x2 : Int32) (x3 : Int32) (y0 : Int32) (H : Heap) (locs : List Loc) (ls : Array Slot), va_P (dC, dI) kcl (mo_W q6 qA qB qF qR qC qL qS qO qY qH qW qM cyI cyJ cyZ m_th m_o m_f m_r m_b m_a u_F u_R g_F g_R g_C g_L m_rl m_lf m_ov m_pl g_S g_O g_Y g_H m_st g_W m_rm m_fs g_M) H → va_D A (mo_W q6 qA qB qF qR qC qL qS qO qY qH qW qM cyI cyJ cyZ m_th m_o m_f m_r m_b m_a u_F u_R g_F g_R g_C g_L m_rl m_lf m_ov m_pl g_S g_O g_Y g_H m_st g_W m_rm m_fs g_M) → va_S A s.heap H locs → lv_has ls 5 [(0, .ref q6), (1, .int x1), (2, .int x2), (3, .int x3)] → cf_X6_size_s36  m_th m_o m_f m_r m_a u_F u_R g_F g_R g_C g_L m_rl m_lf m_ov m_pl x1 x2 x3 y0 = R → W p l e (headSpec wsX6_size ({ frames := 2, cells := 0, slots := 0, locals := 44 })).room s m ([.ref q6, .int a0, .int a1, .int a2] : List Value).toArray below meth c H locs 0 0 (MQ below (mu_Q none (dC, dI) kcl (mo_W q6 qA qB qF qR qC qL qS qO qY qH qW qM cyI cyJ cyZ R.1 R.2.1 R.2.2.1 R.2.2.2.1 m_b m_a R.2.2.2.2.1 R.2.2.2.2.2.1 R.2.2.2.2.2.2.1 R.2.2.2.2.2.2.2.1 R.2.2.2.2.2.2.2.2.1 R.2.2.2.2.2.2.2.2.2.1 R.2.2.2.2.2.2.2.2.2.2.1 R.2.2.2.2.2.2.2.2.2.2.2.1 R.2.2.2.2.2.2.2.2.2.2.2.2.1 R.2.2.2.2.2.2.2.2.2.2.2.2.2 g_S g_O g_Y g_H m_st g_W m_rm m_fs g_M) A) ([.ref q6, .int a0, .int a1, .int a2] : List Value).toArray s 0 0 A) (F0 m 36 ls [.int y0, .ref q6]) := by
    intro  m_th m_o m_f m_r u_F u_R g_F g_R g_C g_L m_rl m_lf m_ov m_pl x1 x2 x3 y0 H locs ls hP hD hS hl hR
    unfold cf_X6_size_s36 at hR
    refine mu_call (ws' := (mo_W q6 qA qB qF qR qC qL qS qO qY qH qW qM cyI cyJ cyZ ((cf_X6_fails m_th y0).1) m_o m_f m_r m_b m_a u_F u_R g_F g_R g_C g_L m_rl m_lf m_ov m_pl g_S g_O g_Y g_H m_st g_W m_rm m_fs g_M)) (wr := []) (va_runV (As := [.int y0]) (rest := []) ⟨hx, hb, hml, hown, hts⟩ (c_X6_fails l dC dI q6 qA qB qF qR qC qL qS qO qY qH qW qM cyI cyJ cyZ m_th m_o m_f m_r m_b m_a u_F u_R g_F g_R g_C g_L m_rl m_lf m_ov m_pl g_S g_O g_Y g_H m_st g_W m_rm m_fs g_M H.size y0  ) (cwV 1 hts gX6_size_X6_fails rfl rfl rfl (by decide +kernel) ⟨Nat.le_of_ble_eq_true rfl, Nat.le_of_ble_eq_true rfl⟩) ⟨mu_blind, va_recv hK hP (ci := 4) (q0 := 0) rfl rfl, fun U hU hW => ⟨rfl, by rw [hU], by rw [hU]; exact hP, va_K.moved hW.alike (hK.sub [0, 1, 2] rfl), hD.weaken (fun _ _ _ _ => trivial)⟩⟩ rfl rfl hl.1 rfl (lv_room (Nat.le_of_ble_eq_true rfl)) dX6_size_36 ⟨Nat.le_refl _, Nat.le_refl _⟩) hP hD hS hA [0, 1, 2, 3, 4, 5, 6, 7, 8, 9, 10, 11, 12] [] [0, 1, 2, 3, 4, 5, 6, 7, 8, 9, 10, 11, 12] rfl rfl (by decide) (by decide) (by decide) rfl (by decide) rfl (fun H locs hP hD hS => ?_)
    refine W.eq (g2 := F0 m 39 ls [.int ((cf_X6_fails m_th y0).2)]) rfl ?_
    refine lv_if_eq (tgt := 43) hx hb dX6_size_39 (by decide) (fun c_2 => ?_) (fun c_2 => ?_)
    · rw [if_pos c_2] at hR
      refine lv_aload_n hx hb dX6_size_43 rfl (lv_at hl 0 rfl) ?_
      refine lv_iload_n hx hb dX6_size_44 rfl (lv_at hl 1 rfl) ?_
      refine va_put (D := (dC, dI)) (ci := 4) (v := .int x1) (ty := .int) (C := RX6) (T := TX6) (N := 25) hx hb hts h1_ tyX6 tyX6_ok nmX6 hown hK hP hD hS 0 rfl rfl 1 (by decide) h0_ (fun _ h9 => h9) rfl (by decide +kernel) rfl rfl (Nat.le_of_ble_eq_true rfl) dX6_size_45 (fun H locs hP hD hS => ?_)
      have hP : va_P (dC, dI) kcl (mo_W q6 qA qB qF qR qC qL qS qO qY qH qW qM cyI cyJ cyZ ((cf_X6_fails m_th y0).1) x1 m_f m_r m_b m_a u_F u_R g_F g_R g_C g_L m_rl m_lf m_ov m_pl g_S g_O g_Y g_H m_st g_W m_rm m_fs g_M) H := hP
      have hD : va_D A (mo_W q6 qA qB qF qR qC qL qS qO qY qH qW qM cyI cyJ cyZ ((cf_X6_fails m_th y0).1) x1 m_f m_r m_b m_a u_F u_R g_F g_R g_C g_L m_rl m_lf m_ov m_pl g_S g_O g_Y g_H m_st g_W m_rm m_fs g_M) := hD
      refine lv_aload_n hx hb dX6_size_48 rfl (lv_at hl 0 rfl) ?_
      refine lv_iload_n hx hb dX6_size_49 rfl (lv_at hl 2 rfl) ?_
      refine va_put (D := (dC, dI)) (ci := 4) (v := .int x2) (ty := .int) (C := RX6) (T := TX6) (N := 25) hx hb hts h1_ tyX6 tyX6_ok nmX6 hown hK hP hD hS 0 rfl rfl 2 (by decide) h2_ (fun _ h9 => h9) rfl (by decide +kernel) rfl rfl (Nat.le_of_ble_eq_true rfl) dX6_size_50 (fun H locs hP hD hS => ?_)
      have hP : va_P (dC, dI) kcl (mo_W q6 qA qB qF qR qC qL qS qO qY qH qW qM cyI cyJ cyZ ((cf_X6_fails m_th y0).1) x1 x2 m_r m_b m_a u_F u_R g_F g_R g_C g_L m_rl m_lf m_ov m_pl g_S g_O g_Y g_H m_st g_W m_rm m_fs g_M) H := hP
      have hD : va_D A (mo_W q6 qA qB qF qR qC qL qS qO qY qH qW qM cyI cyJ cyZ ((cf_X6_fails m_th y0).1) x1 x2 m_r m_b m_a u_F u_R g_F g_R g_C g_L m_rl m_lf m_ov m_pl g_S g_O g_Y g_H m_st g_W m_rm m_fs g_M) := hD
      refine lv_aload_n hx hb dX6_size_53 rfl (lv_at hl 0 rfl) ?_
      refine lv_iload_n hx hb dX6_size_54 rfl (lv_at hl 3 rfl) ?_
      refine va_put (D := (dC, dI)) (ci := 4) (v := .int x3) (ty := .int) (C := RX6) (T := TX6) (N := 25) hx hb hts h1_ tyX6 tyX6_ok nmX6 hown hK hP hD hS 0 rfl rfl 3 (by decide) h3_ (fun _ h9 => h9) rfl (by decide +kernel) rfl rfl (Nat.le_of_ble_eq_true rfl) dX6_size_55 (fun H locs hP hD hS => ?_)
      have hP : va_P (dC, dI) kcl (mo_W q6 qA qB qF qR qC qL qS qO qY qH qW qM cyI cyJ cyZ ((cf_X6_fails m_th y0).1) x1 x2 x3 m_b m_a u_F u_R g_F g_R g_C g_L m_rl m_lf m_ov m_pl g_S g_O g_Y g_H m_st g_W m_rm m_fs g_M) H := hP
      have hD : va_D A (mo_W q6 qA qB qF qR qC qL qS qO qY qH qW qM cyI cyJ cyZ ((cf_X6_fails m_th y0).1) x1 x2 x3 m_b m_a u_F u_R g_F g_R g_C g_L m_rl m_lf m_ov m_pl g_S g_O g_Y g_H m_st g_W m_rm m_fs g_M) := hD
      refine lv_iconst (v := (0 : Int32)) hx hb dX6_size_58 (by decide +kernel) ?_
      refine lv_istore (lv' := [(4, .int (0 : Int32)), (0, .ref q6), (1, .int x1), (2, .int x2), (3, .int x3)]) hx hb dX6_size_59 hl (by decide) rfl (fun ls hl => ?_)
      exact Ks61_0  ((cf_X6_fails m_th y0).1) x1 x2 x3 u_F u_R g_F g_R g_C g_L m_rl m_lf m_ov m_pl  H locs ls hP hD hS (lv_sub hl [1, 0] rfl) hR
    · rw [if_neg c_2] at hR
      rw [← hR]
      exact W.vret hx hb hr (fun t ht _ => ⟨rfl, by rw [ht]; exact hP, hS.F ht⟩) hS.2.2 dX6_size_42
  have Ks31 : ∀  (m_th : Int32) (m_o : Int32) (m_f : Int32) (m_r : Int32) (u_F : Nat → Int32) (u_R : Nat → Int32) (g_F : Nat → Int32) (g_R : Nat → Int32) (g_C : Nat → Int32) (g_L : Nat → Int32) (m_rl : Int32) (m_lf : Int32) (m_ov : Int32) (m_pl : Int64) (x1 : Int32) (x2 : Int32) (x3 : Int32) (H : Heap) (locs : List Loc) (ls : Array Slot), va_P (dC, dI) kcl (mo_W q6 qA qB qF qR qC qL qS qO qY qH qW qM cyI cyJ cyZ m_th m_o m_f m_r m_b m_a u_F u_R g_F g_R g_C g_L m_rl m_lf m_ov m_pl g_S g_O g_Y g_H m_st g_W m_rm m_fs g_M) H → va_D A (mo_W q6 qA qB qF qR qC qL qS qO qY qH qW qM cyI cyJ cyZ m_th m_o m_f m_r m_b m_a u_F u_R g_F g_R g_C g_L m_rl m_lf m_ov m_pl g_S g_O g_Y g_H m_st g_W m_rm m_fs g_M) → va_S A s.heap H locs → lv_has ls 5 [(0, .ref q6), (1, .int x1), (2, .int x2), (3, .int x3)] → cf_X6_size_s31  m_th m_o m_f m_r m_a u_F u_R g_F g_R g_C g_L m_rl m_lf m_ov m_pl x1 x2 x3 = R → W p l e (headSpec wsX6_size ({ frames := 2, cells := 0, slots := 0, locals := 44 })).room s m ([.ref q6, .int a0, .int a1, .int a2] : List Value).toArray below meth c H locs 0 0 (MQ below (mu_Q none (dC, dI) kcl (mo_W q6 qA qB qF qR qC qL qS qO qY qH qW qM cyI cyJ cyZ R.1 R.2.1 R.2.2.1 R.2.2.2.1 m_b m_a R.2.2.2.2.1 R.2.2.2.2.2.1 R.2.2.2.2.2.2.1 R.2.2.2.2.2.2.2.1 R.2.2.2.2.2.2.2.2.1 R.2.2.2.2.2.2.2.2.2.1 R.2.2.2.2.2.2.2.2.2.2.1 R.2.2.2.2.2.2.2.2.2.2.2.1 R.2.2.2.2.2.2.2.2.2.2.2.2.1 R.2.2.2.2.2.2.2.2.2.2.2.2.2 g_S g_O g_Y g_H m_st g_W m_rm m_fs g_M) A) ([.ref q6, .int a0, .int a1, .int a2] : List Value).toArray s 0 0 A) (F0 m 31 ls [.ref q6]) := by
    intro  m_th m_o m_f m_r u_F u_R g_F g_R g_C g_L m_rl m_lf m_ov m_pl x1 x2 x3 H locs ls hP hD hS hl hR
    unfold cf_X6_size_s31 at hR
    refine lv_iconst (v := (1 : Int32)) hx hb dX6_size_31 (by decide +kernel) ?_
    refine lv_goto (tgt := 36) hx hb dX6_size_32 (by decide) ?_
    exact Ks36  m_th m_o m_f m_r u_F u_R g_F g_R g_C g_L m_rl m_lf m_ov m_pl x1 x2 x3 (1 : Int32) H locs ls hP hD hS (lv_sub hl [0, 1, 2, 3] rfl) hR
  have hl := lv_entry ([.ref q6, .int a0, .int a1, .int a2]) (n := 5) (Nat.le_of_ble_eq_true rfl)
  rw [lg_entry_eq]
  generalize (lg_sl ([.ref q6, .int a0, .int a1, .int a2]) ++ List.replicate (5 - (lg_sl ([.ref q6, .int a0, .int a1, .int a2])).length) Slot.unset).toArray = ls at hl ⊢
  have hl : lv_has ls 5 [(0, .ref q6), (1, .int a0), (2, .int a1), (3, .int a2)] := hl
  unfold cf_X6_size at hR
  refine mu_start (A := A) (fun H locs hP hS => ?_) hP
  refine lv_aload_n hx hb dX6_size_0 rfl (lv_at hl 0 rfl) ?_
  refine lv_iload_n hx hb dX6_size_1 rfl (lv_at hl 1 rfl) ?_
  refine lv_iconst (v := (1 : Int32)) hx hb dX6_size_2 (by decide +kernel) ?_
  refine lv_icmp_lt (tgt := 31) hx hb dX6_size_3 (by decide) (fun c_1 => ?_) (fun c_1 => ?_)
  · rw [if_pos c_1] at hR
    exact Ks31  m_th m_o m_f m_r u_F u_R g_F g_R g_C g_L m_rl m_lf m_ov m_pl a0 a1 a2 H locs ls hP hD hS (lv_sub hl [0, 1, 2, 3] rfl) hR
  · rw [if_neg c_1] at hR
    refine lv_iload_n hx hb dX6_size_6 rfl (lv_at hl 1 rfl) ?_
    refine lv_iconst (v := (4 : Int32)) hx hb dX6_size_7 (by decide +kernel) ?_
    refine lv_icmp_gt (tgt := 31) hx hb dX6_size_8 (by decide) (fun c_3 => ?_) (fun c_3 => ?_)
    · rw [if_pos c_3] at hR
      exact Ks31  m_th m_o m_f m_r u_F u_R g_F g_R g_C g_L m_rl m_lf m_ov m_pl a0 a1 a2 H locs ls hP hD hS (lv_sub hl [0, 1, 2, 3] rfl) hR
    · rw [if_neg c_3] at hR
      refine lv_iload_n hx hb dX6_size_11 rfl (lv_at hl 2 rfl) ?_
      refine lv_iconst (v := (1 : Int32)) hx hb dX6_size_12 (by decide +kernel) ?_
      refine lv_icmp_lt (tgt := 31) hx hb dX6_size_13 (by decide) (fun c_4 => ?_) (fun c_4 => ?_)
      · rw [if_pos c_4] at hR
        exact Ks31  m_th m_o m_f m_r u_F u_R g_F g_R g_C g_L m_rl m_lf m_ov m_pl a0 a1 a2 H locs ls hP hD hS (lv_sub hl [0, 1, 2, 3] rfl) hR
      · rw [if_neg c_4] at hR
        refine lv_iload_n hx hb dX6_size_16 rfl (lv_at hl 2 rfl) ?_
        refine lv_iconst (v := (2 : Int32)) hx hb dX6_size_17 (by decide +kernel) ?_
        refine lv_icmp_gt (tgt := 31) hx hb dX6_size_18 (by decide) (fun c_5 => ?_) (fun c_5 => ?_)
        · rw [if_pos c_5] at hR
          exact Ks31  m_th m_o m_f m_r u_F u_R g_F g_R g_C g_L m_rl m_lf m_ov m_pl a0 a1 a2 H locs ls hP hD hS (lv_sub hl [0, 1, 2, 3] rfl) hR
        · rw [if_neg c_5] at hR
          refine lv_iload_n hx hb dX6_size_21 rfl (lv_at hl 3 rfl) ?_
          refine lv_iconst (v := (1 : Int32)) hx hb dX6_size_22 (by decide +kernel) ?_
          refine lv_icmp_lt (tgt := 31) hx hb dX6_size_23 (by decide) (fun c_6 => ?_) (fun c_6 => ?_)
          · rw [if_pos c_6] at hR
            exact Ks31  m_th m_o m_f m_r u_F u_R g_F g_R g_C g_L m_rl m_lf m_ov m_pl a0 a1 a2 H locs ls hP hD hS (lv_sub hl [0, 1, 2, 3] rfl) hR
          · rw [if_neg c_6] at hR
            refine lv_iload_n hx hb dX6_size_26 rfl (lv_at hl 3 rfl) ?_
            refine lv_iconst (v := (3 : Int32)) hx hb dX6_size_27 (by decide +kernel) ?_
            refine lv_icmp_le (tgt := 35) hx hb dX6_size_28 (by decide) (fun c_7 => ?_) (fun c_7 => ?_)
            · rw [if_pos c_7] at hR
              refine lv_iconst (v := (0 : Int32)) hx hb dX6_size_35 (by decide +kernel) ?_
              exact Ks36  m_th m_o m_f m_r u_F u_R g_F g_R g_C g_L m_rl m_lf m_ov m_pl a0 a1 a2 (0 : Int32) H locs ls hP hD hS (lv_sub hl [0, 1, 2, 3] rfl) hR
            · rw [if_neg c_7] at hR
              exact Ks31  m_th m_o m_f m_r u_F u_R g_F g_R g_C g_L m_rl m_lf m_ov m_pl a0 a1 a2 H locs ls hP hD hS (lv_sub hl [0, 1, 2, 3] rfl) hR
def cf_X6_point_s61  (m_th : Int32) (m_o : Int32) (m_f : Int32) (m_a : Int32) (u_F : Nat → Int32) (u_R : Nat → Int32) (g_F : Nat → Int32) (g_R : Nat → Int32) (g_C : Nat → Int32) (g_L : Nat → Int32) (m_rl : Int32) (m_lf : Int32) (m_ov : Int32) (m_pl : Int64) (y0 : Int64) : Int32 × (Nat → Int32) × (Nat → Int32) × (Nat → Int32) × (Nat → Int32) × (Nat → Int32) × Int32 × Int32 × Int32 × Int64 :=
  (m_th, u_F, g_F, g_R, g_C, g_L, m_rl, m_lf, m_ov, y0)
def cf_X6_point_s38  (m_th : Int32) (m_o : Int32) (m_f : Int32) (m_a : Int32) (u_F : Nat → Int32) (u_R : Nat → Int32) (g_F : Nat → Int32) (g_R : Nat → Int32) (g_C : Nat → Int32) (g_L : Nat → Int32) (m_rl : Int32) (m_lf : Int32) (m_ov : Int32) (m_pl : Int64) (x1 : Int32) (x2 : Int32) (x3 : Int32) (y0 : Int32) : Int32 × (Nat → Int32) × (Nat → Int32) × (Nat → Int32) × (Nat → Int32) × (Nat → Int32) × Int32 × Int32 × Int32 × Int64 :=
  (if (cf_X6_fails m_th y0).2 = 0 then cf_X6_point_s61  ((cf_X6_fails m_th y0).1) m_o m_f m_a (upd u_F ((((2 : Int32) * x1) + x2)).toNatClampNeg x3) u_R ((cf_X6_first m_a (upd u_F ((((2 : Int32) * x1) + x2)).toNatClampNeg x3) u_R g_F g_R g_C g_L m_rl m_lf m_ov ).1) ((cf_X6_first m_a (upd u_F ((((2 : Int32) * x1) + x2)).toNatClampNeg x3) u_R g_F g_R g_C g_L m_rl m_lf m_ov ).2.1) ((cf_X6_first m_a (upd u_F ((((2 : Int32) * x1) + x2)).toNatClampNeg x3) u_R g_F g_R g_C g_L m_rl m_lf m_ov ).2.2.1) ((cf_X6_first m_a (upd u_F ((((2 : Int32) * x1) + x2)).toNatClampNeg x3) u_R g_F g_R g_C g_L m_rl m_lf m_ov ).2.2.2.1) ((cf_X6_first m_a (upd u_F ((((2 : Int32) * x1) + x2)).toNatClampNeg x3) u_R g_F g_R g_C g_L m_rl m_lf m_ov ).2.2.2.2.1) ((cf_X6_first m_a (upd u_F ((((2 : Int32) * x1) + x2)).toNatClampNeg x3) u_R g_F g_R g_C g_L m_rl m_lf m_ov ).2.2.2.2.2.1) ((cf_X6_first m_a (upd u_F ((((2 : Int32) * x1) + x2)).toNatClampNeg x3) u_R g_F g_R g_C g_L m_rl m_lf m_ov ).2.2.2.2.2.2.1) m_pl ((cf_X6_first m_a (upd u_F ((((2 : Int32) * x1) + x2)).toNatClampNeg x3) u_R g_F g_R g_C g_L m_rl m_lf m_ov ).2.2.2.2.2.2.2) else ((cf_X6_fails m_th y0).1, u_F, g_F, g_R, g_C, g_L, m_rl, m_lf, m_ov, m_pl))
def vc_X6_point_s38  (m_th : Int32) (m_o : Int32) (m_f : Int32) (m_a : Int32) (u_F : Nat → Int32) (u_R : Nat → Int32) (g_F : Nat → Int32) (g_R : Nat → Int32) (g_C : Nat → Int32) (g_L : Nat → Int32) (m_rl : Int32) (m_lf : Int32) (m_ov : Int32) (m_pl : Int64) (x1 : Int32) (x2 : Int32) (x3 : Int32) (y0 : Int32) : Prop :=
  (((cf_X6_fails m_th y0).2 = 0 → (vp_in (((2 : Int32) * x1) + x2) 8 ∧ True)) ∧ (¬ (cf_X6_fails m_th y0).2 = 0 → True))
def cf_X6_point_s33  (m_th : Int32) (m_o : Int32) (m_f : Int32) (m_a : Int32) (u_F : Nat → Int32) (u_R : Nat → Int32) (g_F : Nat → Int32) (g_R : Nat → Int32) (g_C : Nat → Int32) (g_L : Nat → Int32) (m_rl : Int32) (m_lf : Int32) (m_ov : Int32) (m_pl : Int64) (x1 : Int32) (x2 : Int32) (x3 : Int32) : Int32 × (Nat → Int32) × (Nat → Int32) × (Nat → Int32) × (Nat → Int32) × (Nat → Int32) × Int32 × Int32 × Int32 × Int64 :=
  cf_X6_point_s38  m_th m_o m_f m_a u_F u_R g_F g_R g_C g_L m_rl m_lf m_ov m_pl x1 x2 x3 (1 : Int32)
def vc_X6_point_s33  (m_th : Int32) (m_o : Int32) (m_f : Int32) (m_a : Int32) (u_F : Nat → Int32) (u_R : Nat → Int32) (g_F : Nat → Int32) (g_R : Nat → Int32) (g_C : Nat → Int32) (g_L : Nat → Int32) (m_rl : Int32) (m_lf : Int32) (m_ov : Int32) (m_pl : Int64) (x1 : Int32) (x2 : Int32) (x3 : Int32) : Prop :=
  vc_X6_point_s38  m_th m_o m_f m_a u_F u_R g_F g_R g_C g_L m_rl m_lf m_ov m_pl x1 x2 x3 (1 : Int32)
def cf_X6_point (m_th : Int32) (m_o : Int32) (m_f : Int32) (m_a : Int32) (u_F : Nat → Int32) (u_R : Nat → Int32) (g_F : Nat → Int32) (g_R : Nat → Int32) (g_C : Nat → Int32) (g_L : Nat → Int32) (m_rl : Int32) (m_lf : Int32) (m_ov : Int32) (m_pl : Int64) (a0 : Int32) (a1 : Int32) (a2 : Int32) : Int32 × (Nat → Int32) × (Nat → Int32) × (Nat → Int32) × (Nat → Int32) × (Nat → Int32) × Int32 × Int32 × Int32 × Int64 :=
  (if a0 < 0 then cf_X6_point_s33  m_th m_o m_f m_a u_F u_R g_F g_R g_C g_L m_rl m_lf m_ov m_pl a0 a1 a2 else (if m_o ≤ a0 then cf_X6_point_s33  m_th m_o m_f m_a u_F u_R g_F g_R g_C g_L m_rl m_lf m_ov m_pl a0 a1 a2 else (if a1 < 0 then cf_X6_point_s33  m_th m_o m_f m_a u_F u_R g_F g_R g_C g_L m_rl m_lf m_ov m_pl a0 a1 a2 else (if m_f ≤ a1 then cf_X6_point_s33  m_th m_o m_f m_a u_F u_R g_F g_R g_C g_L m_rl m_lf m_ov m_pl a0 a1 a2 else (if (cf_X6_isThing m_o a2) = 0 then cf_X6_point_s33  m_th m_o m_f m_a u_F u_R g_F g_R g_C g_L m_rl m_lf m_ov m_pl a0 a1 a2 else cf_X6_point_s38  m_th m_o m_f m_a u_F u_R g_F g_R g_C g_L m_rl m_lf m_ov m_pl a0 a1 a2 (0 : Int32))))))
def vc_X6_point (m_th : Int32) (m_o : Int32) (m_f : Int32) (m_a : Int32) (u_F : Nat → Int32) (u_R : Nat → Int32) (g_F : Nat → Int32) (g_R : Nat → Int32) (g_C : Nat → Int32) (g_L : Nat → Int32) (m_rl : Int32) (m_lf : Int32) (m_ov : Int32) (m_pl : Int64) (a0 : Int32) (a1 : Int32) (a2 : Int32) : Prop :=
  ((a0 < 0 → vc_X6_point_s33  m_th m_o m_f m_a u_F u_R g_F g_R g_C g_L m_rl m_lf m_ov m_pl a0 a1 a2) ∧ (¬ a0 < 0 → ((m_o ≤ a0 → vc_X6_point_s33  m_th m_o m_f m_a u_F u_R g_F g_R g_C g_L m_rl m_lf m_ov m_pl a0 a1 a2) ∧ (¬ m_o ≤ a0 → ((a1 < 0 → vc_X6_point_s33  m_th m_o m_f m_a u_F u_R g_F g_R g_C g_L m_rl m_lf m_ov m_pl a0 a1 a2) ∧ (¬ a1 < 0 → ((m_f ≤ a1 → vc_X6_point_s33  m_th m_o m_f m_a u_F u_R g_F g_R g_C g_L m_rl m_lf m_ov m_pl a0 a1 a2) ∧ (¬ m_f ≤ a1 → (((cf_X6_isThing m_o a2) = 0 → vc_X6_point_s33  m_th m_o m_f m_a u_F u_R g_F g_R g_C g_L m_rl m_lf m_ov m_pl a0 a1 a2) ∧ (¬ (cf_X6_isThing m_o a2) = 0 → vc_X6_point_s38  m_th m_o m_f m_a u_F u_R g_F g_R g_C g_L m_rl m_lf m_ov m_pl a0 a1 a2 (0 : Int32)))))))))))
set_option maxHeartbeats 4000000 in
set_option maxRecDepth 100000 in
theorem c_X6_point (l : Launch) (dC : Nat → ClassId) (dI : Nat → Nat → Nat) (q6 qA qB qF qR qC qL qS qO qY qH qW qM : Nat) (cyI cyJ cyZ : ClassId) (m_th : Int32) (m_o : Int32) (m_f : Int32) (m_r : Int32) (m_b : Int32) (m_a : Int32) (u_F : Nat → Int32) (u_R : Nat → Int32) (g_F : Nat → Int32) (g_R : Nat → Int32) (g_C : Nat → Int32) (g_L : Nat → Int32) (m_rl : Int32) (m_lf : Int32) (m_ov : Int32) (m_pl : Int64) (g_S : Nat → Int64) (g_O : Nat → Int32) (g_Y : Nat → Int32) (g_H : Nat → Int32) (m_st : Int32) (g_W : Nat → Int32) (m_rm : Int32) (m_fs : Int32) (g_M : Nat → Int32) (sz : Nat) (a0 : Int32) (a1 : Int32) (a2 : Int32)  (hV : vc_X6_point m_th m_o m_f m_a u_F u_R g_F g_R g_C g_L m_rl m_lf m_ov m_pl a0 a1 a2) : Met l yX6_point wsX6_point ({ frames := 2, cells := 0, slots := 0, locals := 44 }) (mu_P [.ref q6, .int a0, .int a1, .int a2] sz (dC, dI) kcl (mo_W q6 qA qB qF qR qC qL qS qO qY qH qW qM cyI cyJ cyZ m_th m_o m_f m_r m_b m_a u_F u_R g_F g_R g_C g_L m_rl m_lf m_ov m_pl g_S g_O g_Y g_H m_st g_W m_rm m_fs g_M) [(cyI, .int), (cyJ, .long), (cyZ, .boolean)]) (mu_Q none (dC, dI) kcl (mo_W q6 qA qB qF qR qC qL qS qO qY qH qW qM cyI cyJ cyZ ((cf_X6_point m_th m_o m_f m_a u_F u_R g_F g_R g_C g_L m_rl m_lf m_ov m_pl a0 a1 a2).1) m_o m_f m_r m_b m_a ((cf_X6_point m_th m_o m_f m_a u_F u_R g_F g_R g_C g_L m_rl m_lf m_ov m_pl a0 a1 a2).2.1) u_R ((cf_X6_point m_th m_o m_f m_a u_F u_R g_F g_R g_C g_L m_rl m_lf m_ov m_pl a0 a1 a2).2.2.1) ((cf_X6_point m_th m_o m_f m_a u_F u_R g_F g_R g_C g_L m_rl m_lf m_ov m_pl a0 a1 a2).2.2.2.1) ((cf_X6_point m_th m_o m_f m_a u_F u_R g_F g_R g_C g_L m_rl m_lf m_ov m_pl a0 a1 a2).2.2.2.2.1) ((cf_X6_point m_th m_o m_f m_a u_F u_R g_F g_R g_C g_L m_rl m_lf m_ov m_pl a0 a1 a2).2.2.2.2.2.1) ((cf_X6_point m_th m_o m_f m_a u_F u_R g_F g_R g_C g_L m_rl m_lf m_ov m_pl a0 a1 a2).2.2.2.2.2.2.1) ((cf_X6_point m_th m_o m_f m_a u_F u_R g_F g_R g_C g_L m_rl m_lf m_ov m_pl a0 a1 a2).2.2.2.2.2.2.2.1) ((cf_X6_point m_th m_o m_f m_a u_F u_R g_F g_R g_C g_L m_rl m_lf m_ov m_pl a0 a1 a2).2.2.2.2.2.2.2.2.1) ((cf_X6_point m_th m_o m_f m_a u_F u_R g_F g_R g_C g_L m_rl m_lf m_ov m_pl a0 a1 a2).2.2.2.2.2.2.2.2.2) g_S g_O g_Y g_H m_st g_W m_rm m_fs g_M) (va_A (mo_W q6 qA qB qF qR qC qL qS qO qY qH qW qM cyI cyJ cyZ m_th m_o m_f m_r m_b m_a u_F u_R g_F g_R g_C g_L m_rl m_lf m_ov m_pl g_S g_O g_Y g_H m_st g_W m_rm m_fs g_M) sz)) 0 0 (va_A (mo_W q6 qA qB qF qR qC qL qS qO qY qH qW qM cyI cyJ cyZ m_th m_o m_f m_r m_b m_a u_F u_R g_F g_R g_C g_L m_rl m_lf m_ov m_pl g_S g_O g_Y g_H m_st g_W m_rm m_fs g_M) sz) := by
  refine Met.ofW (cc := cX6_point) (maxL := 4) (ret := none) (by decide) rfl ?_
  intro p e s m args below meth c s₁ B hml hv
  obtain ⟨rfl, hsz, hP, hK, hD0⟩ := hv
  have hx := B.exec
  have hb := B.bytes
  have hr := B.returns
  have hts := atoms_spec (ws := wsX6_point) B.pre
  have hown : s.vm.findClass RX6 = some m.cls := findClass_of_methodNamed B.named
  have hlocks := B.notSynchronized
  subst hsz
  have hD := hD0.self (sz := s.heap.size)
  generalize hAe : va_A (mo_W q6 qA qB qF qR qC qL qS qO qY qH qW qM cyI cyJ cyZ m_th m_o m_f m_r m_b m_a u_F u_R g_F g_R g_C g_L m_rl m_lf m_ov m_pl g_S g_O g_Y g_H m_st g_W m_rm m_fs g_M) s.heap.size = A at hD ⊢
  have hA : ∀ q : Nat, s.heap.size ≤ q → A q := fun q h => by rw [← hAe]; exact Or.inr h
  have hP : va_P (dC, dI) kcl (mo_W q6 qA qB qF qR qC qL qS qO qY qH qW qM cyI cyJ cyZ m_th m_o m_f m_r m_b m_a u_F u_R g_F g_R g_C g_L m_rl m_lf m_ov m_pl g_S g_O g_Y g_H m_st g_W m_rm m_fs g_M) s.heap := hP
  have h0_ : (Cond.fieldLink RX6 22 "ColourTrierModel" "firstField" "[I").before _ s = true := hts _ (by decide +kernel)
  have h1_ : ∀ w ∈ u_ws RX6 TX6 25, w ∈ wsX6_point := fun w h => List.mem_cons_of_mem _ (List.mem_append_right _ h)
  have h2_ : (Cond.fieldLink RX6 66 "ColourTrierModel" "played" "J").before _ s = true := hts _ (by decide +kernel)
  have h3_ : (Cond.fieldLink RX6 13 "ColourTrierModel" "objects" "I").before _ s = true := hts _ (by decide +kernel)
  have h4_ : (Cond.fieldLink RX6 16 "ColourTrierModel" "fields" "I").before _ s = true := hts _ (by decide +kernel)
  generalize hR : (cf_X6_point m_th m_o m_f m_a u_F u_R g_F g_R g_C g_L m_rl m_lf m_ov m_pl a0 a1 a2) = R
  have Ks61 : ∀  (m_th : Int32) (u_F : Nat → Int32) (g_F : Nat → Int32) (g_R : Nat → Int32) (g_C : Nat → Int32) (g_L : Nat → Int32) (m_rl : Int32) (m_lf : Int32) (m_ov : Int32) (m_pl : Int64) (y0 : Int64) (H : Heap) (locs : List Loc) (ls : Array Slot), va_P (dC, dI) kcl (mo_W q6 qA qB qF qR qC qL qS qO qY qH qW qM cyI cyJ cyZ m_th m_o m_f m_r m_b m_a u_F u_R g_F g_R g_C g_L m_rl m_lf m_ov m_pl g_S g_O g_Y g_H m_st g_W m_rm m_fs g_M) H → va_D A (mo_W q6 qA qB qF qR qC qL qS qO qY qH qW qM cyI cyJ cyZ m_th m_o m_f m_r m_b m_a u_F u_R g_F g_R g_C g_L m_rl m_lf m_ov m_pl g_S g_O g_Y g_H m_st g_W m_rm m_fs g_M) → va_S A s.heap H locs → lv_has ls 4 [] → cf_X6_point_s61  m_th m_o m_f m_a u_F u_R g_F g_R g_C g_L m_rl m_lf m_ov m_pl y0 = R → W p l e (headSpec wsX6_point ({ frames := 2, cells := 0, slots := 0, locals := 44 })).room s m ([.ref q6, .int a0, .int a1, .int a2] : List Value).toArray below meth c H locs 0 0 (MQ below (mu_Q none (dC, dI) kcl (mo_W q6 qA qB qF qR qC qL qS qO qY qH qW qM cyI cyJ cyZ R.1 m_o m_f m_r m_b m_a R.2.1 u_R R.2.2.1 R.2.2.2.1 R.2.2.2.2.1 R.2.2.2.2.2.1 R.2.2.2.2.2.2.1 R.2.2.2.2.2.2.2.1 R.2.2.2.2.2.2.2.2.1 R.2.2.2.2.2.2.2.2.2 g_S g_O g_Y g_H m_st g_W m_rm m_fs g_M) A) ([.ref q6, .int a0, .int a1, .int a2] : List Value).toArray s 0 0 A) (F0 m 61 ls [.long y0, .ref q6]) := by
    intro  m_th u_F g_F g_R g_C g_L m_rl m_lf m_ov m_pl y0 H locs ls hP hD hS hl hR
    unfold cf_X6_point_s61 at hR
    refine va_put (D := (dC, dI)) (ci := 4) (v := .long y0) (ty := .long) (C := RX6) (T := TX6) (N := 25) hx hb hts h1_ tyX6 tyX6_ok nmX6 hown hK hP hD hS 0 rfl rfl 15 (by decide) h2_ (fun _ h9 => h9) rfl (by decide +kernel) rfl rfl (Nat.le_of_ble_eq_true rfl) dX6_point_61 (fun H locs hP hD hS => ?_)
    have hP : va_P (dC, dI) kcl (mo_W q6 qA qB qF qR qC qL qS qO qY qH qW qM cyI cyJ cyZ m_th m_o m_f m_r m_b m_a u_F u_R g_F g_R g_C g_L m_rl m_lf m_ov y0 g_S g_O g_Y g_H m_st g_W m_rm m_fs g_M) H := hP
    have hD : va_D A (mo_W q6 qA qB qF qR qC qL qS qO qY qH qW qM cyI cyJ cyZ m_th m_o m_f m_r m_b m_a u_F u_R g_F g_R g_C g_L m_rl m_lf m_ov y0 g_S g_O g_Y g_H m_st g_W m_rm m_fs g_M) := hD
    rw [← hR]
    exact W.vret hx hb hr (fun t ht _ => ⟨rfl, by rw [ht]; exact hP, hS.F ht⟩) hS.2.2 dX6_point_64
  have Ks38 : ∀  (m_th : Int32) (u_F : Nat → Int32) (g_F : Nat → Int32) (g_R : Nat → Int32) (g_C : Nat → Int32) (g_L : Nat → Int32) (m_rl : Int32) (m_lf : Int32) (m_ov : Int32) (m_pl : Int64) (x1 : Int32) (x2 : Int32) (x3 : Int32) (y0 : Int32) (H : Heap) (locs : List Loc) (ls : Array Slot), va_P (dC, dI) kcl (mo_W q6 qA qB qF qR qC qL qS qO qY qH qW qM cyI cyJ cyZ m_th m_o m_f m_r m_b m_a u_F u_R g_F g_R g_C g_L m_rl m_lf m_ov m_pl g_S g_O g_Y g_H m_st g_W m_rm m_fs g_M) H → va_D A (mo_W q6 qA qB qF qR qC qL qS qO qY qH qW qM cyI cyJ cyZ m_th m_o m_f m_r m_b m_a u_F u_R g_F g_R g_C g_L m_rl m_lf m_ov m_pl g_S g_O g_Y g_H m_st g_W m_rm m_fs g_M) → va_S A s.heap H locs → lv_has ls 4 [(0, .ref q6), (1, .int x1), (2, .int x2), (3, .int x3)] → vc_X6_point_s38  m_th m_o m_f m_a u_F u_R g_F g_R g_C g_L m_rl m_lf m_ov m_pl x1 x2 x3 y0 → cf_X6_point_s38  m_th m_o m_f m_a u_F u_R g_F g_R g_C g_L m_rl m_lf m_ov m_pl x1 x2 x3 y0 = R → W p l e (headSpec wsX6_point ({ frames := 2, cells := 0, slots := 0, locals := 44 })).room s m ([.ref q6, .int a0, .int a1, .int a2] : List Value).toArray below meth c H locs 0 0 (MQ below (mu_Q none (dC, dI) kcl (mo_W q6 qA qB qF qR qC qL qS qO qY qH qW qM cyI cyJ cyZ R.1 m_o m_f m_r m_b m_a R.2.1 u_R R.2.2.1 R.2.2.2.1 R.2.2.2.2.1 R.2.2.2.2.2.1 R.2.2.2.2.2.2.1 R.2.2.2.2.2.2.2.1 R.2.2.2.2.2.2.2.2.1 R.2.2.2.2.2.2.2.2.2 g_S g_O g_Y g_H m_st g_W m_rm m_fs g_M) A) ([.ref q6, .int a0, .int a1, .int a2] : List Value).toArray s 0 0 A) (F0 m 38 ls [.int y0, .ref q6]) := by
    intro  m_th u_F g_F g_R g_C g_L m_rl m_lf m_ov m_pl x1 x2 x3 y0 H locs ls hP hD hS hl hV hR
    unfold cf_X6_point_s38 at hR
    unfold vc_X6_point_s38 at hV
    refine mu_call (ws' := (mo_W q6 qA qB qF qR qC qL qS qO qY qH qW qM cyI cyJ cyZ ((cf_X6_fails m_th y0).1) m_o m_f m_r m_b m_a u_F u_R g_F g_R g_C g_L m_rl m_lf m_ov m_pl g_S g_O g_Y g_H m_st g_W m_rm m_fs g_M)) (wr := []) (va_runV (As := [.int y0]) (rest := []) ⟨hx, hb, hml, hown, hts⟩ (c_X6_fails l dC dI q6 qA qB qF qR qC qL qS qO qY qH qW qM cyI cyJ cyZ m_th m_o m_f m_r m_b m_a u_F u_R g_F g_R g_C g_L m_rl m_lf m_ov m_pl g_S g_O g_Y g_H m_st g_W m_rm m_fs g_M H.size y0  ) (cwV 1 hts gX6_point_X6_fails rfl rfl rfl (by decide +kernel) ⟨Nat.le_of_ble_eq_true rfl, Nat.le_of_ble_eq_true rfl⟩) ⟨mu_blind, va_recv hK hP (ci := 4) (q0 := 0) rfl rfl, fun U hU hW => ⟨rfl, by rw [hU], by rw [hU]; exact hP, va_K.moved hW.alike (hK.sub [0, 1, 2] rfl), hD.weaken (fun _ _ _ _ => trivial)⟩⟩ rfl rfl hl.1 rfl (lv_room (Nat.le_of_ble_eq_true rfl)) dX6_point_38 ⟨Nat.le_refl _, Nat.le_refl _⟩) hP hD hS hA [0, 1, 2, 3, 4, 5, 6, 7, 8, 9, 10, 11, 12] [] [0, 1, 2, 3, 4, 5, 6, 7, 8, 9, 10, 11, 12] rfl rfl (by decide) (by decide) (by decide) rfl (by decide) rfl (fun H locs hP hD hS => ?_)
    refine W.eq (g2 := F0 m 41 ls [.int ((cf_X6_fails m_th y0).2)]) rfl ?_
    refine lv_if_eq (tgt := 45) hx hb dX6_point_41 (by decide) (fun c_2 => ?_) (fun c_2 => ?_)
    · rw [if_pos c_2] at hR
      have hV := hV.1 c_2
      refine lv_aload_n hx hb dX6_point_45 rfl (lv_at hl 0 rfl) ?_
      refine va_get (D := (dC, dI)) (ci := 4) (v := .ref qA) (C := RX6) (T := TX6) (N := 25) hx hb hts h1_ hown hK hP 0 rfl rfl 6 (by decide) h0_ (fun _ h9 => h9) rfl dX6_point_46 ?_
      refine lv_iconst (v := (2 : Int32)) hx hb dX6_point_49 (by decide +kernel) ?_
      refine lv_iload_n hx hb dX6_point_50 rfl (lv_at hl 1 rfl) ?_
      refine lv_imul hx hb dX6_point_51 ?_
      refine lv_iload_n hx hb dX6_point_52 rfl (lv_at hl 2 rfl) ?_
      refine lv_iadd hx hb dX6_point_53 ?_
      refine lv_iload_n hx hb dX6_point_54 rfl (lv_at hl 3 rfl) ?_
      obtain ⟨hi3, hV⟩ := hV
      refine va_iast hx hb hK hP hD hS 1 0 rfl rfl hi3 dX6_point_55 (fun H locs hP hD hS => ?_)
      have hP : va_P (dC, dI) kcl (mo_W q6 qA qB qF qR qC qL qS qO qY qH qW qM cyI cyJ cyZ ((cf_X6_fails m_th y0).1) m_o m_f m_r m_b m_a (upd u_F ((((2 : Int32) * x1) + x2)).toNatClampNeg x3) u_R g_F g_R g_C g_L m_rl m_lf m_ov m_pl g_S g_O g_Y g_H m_st g_W m_rm m_fs g_M) H := hP
      have hD : va_D A (mo_W q6 qA qB qF qR qC qL qS qO qY qH qW qM cyI cyJ cyZ ((cf_X6_fails m_th y0).1) m_o m_f m_r m_b m_a (upd u_F ((((2 : Int32) * x1) + x2)).toNatClampNeg x3) u_R g_F g_R g_C g_L m_rl m_lf m_ov m_pl g_S g_O g_Y g_H m_st g_W m_rm m_fs g_M) := hD
      refine lv_aload_n hx hb dX6_point_56 rfl (lv_at hl 0 rfl) ?_
      refine lv_aload_n hx hb dX6_point_57 rfl (lv_at hl 0 rfl) ?_
      refine mu_call (ws' := (mo_W q6 qA qB qF qR qC qL qS qO qY qH qW qM cyI cyJ cyZ ((cf_X6_fails m_th y0).1) m_o m_f m_r m_b m_a (upd u_F ((((2 : Int32) * x1) + x2)).toNatClampNeg x3) u_R ((cf_X6_first m_a (upd u_F ((((2 : Int32) * x1) + x2)).toNatClampNeg x3) u_R g_F g_R g_C g_L m_rl m_lf m_ov ).1) ((cf_X6_first m_a (upd u_F ((((2 : Int32) * x1) + x2)).toNatClampNeg x3) u_R g_F g_R g_C g_L m_rl m_lf m_ov ).2.1) ((cf_X6_first m_a (upd u_F ((((2 : Int32) * x1) + x2)).toNatClampNeg x3) u_R g_F g_R g_C g_L m_rl m_lf m_ov ).2.2.1) ((cf_X6_first m_a (upd u_F ((((2 : Int32) * x1) + x2)).toNatClampNeg x3) u_R g_F g_R g_C g_L m_rl m_lf m_ov ).2.2.2.1) ((cf_X6_first m_a (upd u_F ((((2 : Int32) * x1) + x2)).toNatClampNeg x3) u_R g_F g_R g_C g_L m_rl m_lf m_ov ).2.2.2.2.1) ((cf_X6_first m_a (upd u_F ((((2 : Int32) * x1) + x2)).toNatClampNeg x3) u_R g_F g_R g_C g_L m_rl m_lf m_ov ).2.2.2.2.2.1) ((cf_X6_first m_a (upd u_F ((((2 : Int32) * x1) + x2)).toNatClampNeg x3) u_R g_F g_R g_C g_L m_rl m_lf m_ov ).2.2.2.2.2.2.1) m_pl g_S g_O g_Y g_H m_st g_W m_rm m_fs g_M)) (wr := []) (va_runV (As := []) (rest := [.ref q6]) ⟨hx, hb, hml, hown, hts⟩ (c_X6_first l dC dI q6 qA qB qF qR qC qL qS qO qY qH qW qM cyI cyJ cyZ ((cf_X6_fails m_th y0).1) m_o m_f m_r m_b m_a (upd u_F ((((2 : Int32) * x1) + x2)).toNatClampNeg x3) u_R g_F g_R g_C g_L m_rl m_lf m_ov m_pl g_S g_O g_Y g_H m_st g_W m_rm m_fs g_M H.size   ) (cwV 0 hts gX6_point_X6_first rfl rfl rfl (by decide +kernel) ⟨Nat.le_of_ble_eq_true rfl, Nat.le_of_ble_eq_true rfl⟩) ⟨mu_blind, va_recv hK hP (ci := 4) (q0 := 0) rfl rfl, fun U hU hW => ⟨rfl, by rw [hU], by rw [hU]; exact hP, va_K.moved hW.alike (hK.sub [0, 1, 2] rfl), hD.weaken (fun _ _ _ _ => trivial)⟩⟩ rfl rfl hl.1 rfl (lv_room (Nat.le_of_ble_eq_true rfl)) dX6_point_58 ⟨Nat.le_refl _, Nat.le_refl _⟩) hP hD hS hA [0, 1, 2, 3, 4, 5, 6, 7, 8, 9, 10, 11, 12] [] [0, 1, 2, 3, 4, 5, 6, 7, 8, 9, 10, 11, 12] rfl rfl (by decide) (by decide) (by decide) rfl (by decide) rfl (fun H locs hP hD hS => ?_)
      refine W.eq (g2 := F0 m 61 ls [.long ((cf_X6_first m_a (upd u_F ((((2 : Int32) * x1) + x2)).toNatClampNeg x3) u_R g_F g_R g_C g_L m_rl m_lf m_ov ).2.2.2.2.2.2.2), .ref q6]) rfl ?_
      exact Ks61  ((cf_X6_fails m_th y0).1) (upd u_F ((((2 : Int32) * x1) + x2)).toNatClampNeg x3) ((cf_X6_first m_a (upd u_F ((((2 : Int32) * x1) + x2)).toNatClampNeg x3) u_R g_F g_R g_C g_L m_rl m_lf m_ov ).1) ((cf_X6_first m_a (upd u_F ((((2 : Int32) * x1) + x2)).toNatClampNeg x3) u_R g_F g_R g_C g_L m_rl m_lf m_ov ).2.1) ((cf_X6_first m_a (upd u_F ((((2 : Int32) * x1) + x2)).toNatClampNeg x3) u_R g_F g_R g_C g_L m_rl m_lf m_ov ).2.2.1) ((cf_X6_first m_a (upd u_F ((((2 : Int32) * x1) + x2)).toNatClampNeg x3) u_R g_F g_R g_C g_L m_rl m_lf m_ov ).2.2.2.1) ((cf_X6_first m_a (upd u_F ((((2 : Int32) * x1) + x2)).toNatClampNeg x3) u_R g_F g_R g_C g_L m_rl m_lf m_ov ).2.2.2.2.1) ((cf_X6_first m_a (upd u_F ((((2 : Int32) * x1) + x2)).toNatClampNeg x3) u_R g_F g_R g_C g_L m_rl m_lf m_ov ).2.2.2.2.2.1) ((cf_X6_first m_a (upd u_F ((((2 : Int32) * x1) + x2)).toNatClampNeg x3) u_R g_F g_R g_C g_L m_rl m_lf m_ov ).2.2.2.2.2.2.1) m_pl ((cf_X6_first m_a (upd u_F ((((2 : Int32) * x1) + x2)).toNatClampNeg x3) u_R g_F g_R g_C g_L m_rl m_lf m_ov ).2.2.2.2.2.2.2) H locs ls hP hD hS (lv_sub hl [] rfl) hR
    · rw [if_neg c_2] at hR
      rw [← hR]
      exact W.vret hx hb hr (fun t ht _ => ⟨rfl, by rw [ht]; exact hP, hS.F ht⟩) hS.2.2 dX6_point_44
  have Ks33 : ∀  (m_th : Int32) (u_F : Nat → Int32) (g_F : Nat → Int32) (g_R : Nat → Int32) (g_C : Nat → Int32) (g_L : Nat → Int32) (m_rl : Int32) (m_lf : Int32) (m_ov : Int32) (m_pl : Int64) (x1 : Int32) (x2 : Int32) (x3 : Int32) (H : Heap) (locs : List Loc) (ls : Array Slot), va_P (dC, dI) kcl (mo_W q6 qA qB qF qR qC qL qS qO qY qH qW qM cyI cyJ cyZ m_th m_o m_f m_r m_b m_a u_F u_R g_F g_R g_C g_L m_rl m_lf m_ov m_pl g_S g_O g_Y g_H m_st g_W m_rm m_fs g_M) H → va_D A (mo_W q6 qA qB qF qR qC qL qS qO qY qH qW qM cyI cyJ cyZ m_th m_o m_f m_r m_b m_a u_F u_R g_F g_R g_C g_L m_rl m_lf m_ov m_pl g_S g_O g_Y g_H m_st g_W m_rm m_fs g_M) → va_S A s.heap H locs → lv_has ls 4 [(0, .ref q6), (1, .int x1), (2, .int x2), (3, .int x3)] → vc_X6_point_s33  m_th m_o m_f m_a u_F u_R g_F g_R g_C g_L m_rl m_lf m_ov m_pl x1 x2 x3 → cf_X6_point_s33  m_th m_o m_f m_a u_F u_R g_F g_R g_C g_L m_rl m_lf m_ov m_pl x1 x2 x3 = R → W p l e (headSpec wsX6_point ({ frames := 2, cells := 0, slots := 0, locals := 44 })).room s m ([.ref q6, .int a0, .int a1, .int a2] : List Value).toArray below meth c H locs 0 0 (MQ below (mu_Q none (dC, dI) kcl (mo_W q6 qA qB qF qR qC qL qS qO qY qH qW qM cyI cyJ cyZ R.1 m_o m_f m_r m_b m_a R.2.1 u_R R.2.2.1 R.2.2.2.1 R.2.2.2.2.1 R.2.2.2.2.2.1 R.2.2.2.2.2.2.1 R.2.2.2.2.2.2.2.1 R.2.2.2.2.2.2.2.2.1 R.2.2.2.2.2.2.2.2.2 g_S g_O g_Y g_H m_st g_W m_rm m_fs g_M) A) ([.ref q6, .int a0, .int a1, .int a2] : List Value).toArray s 0 0 A) (F0 m 33 ls [.ref q6]) := by
    intro  m_th u_F g_F g_R g_C g_L m_rl m_lf m_ov m_pl x1 x2 x3 H locs ls hP hD hS hl hV hR
    unfold cf_X6_point_s33 at hR
    unfold vc_X6_point_s33 at hV
    refine lv_iconst (v := (1 : Int32)) hx hb dX6_point_33 (by decide +kernel) ?_
    refine lv_goto (tgt := 38) hx hb dX6_point_34 (by decide) ?_
    exact Ks38  m_th u_F g_F g_R g_C g_L m_rl m_lf m_ov m_pl x1 x2 x3 (1 : Int32) H locs ls hP hD hS (lv_sub hl [0, 1, 2, 3] rfl) hV hR
  have hl := lv_entry ([.ref q6, .int a0, .int a1, .int a2]) (n := 4) (Nat.le_of_ble_eq_true rfl)
  rw [lg_entry_eq]
  generalize (lg_sl ([.ref q6, .int a0, .int a1, .int a2]) ++ List.replicate (4 - (lg_sl ([.ref q6, .int a0, .int a1, .int a2])).length) Slot.unset).toArray = ls at hl ⊢
  have hl : lv_has ls 4 [(0, .ref q6), (1, .int a0), (2, .int a1), (3, .int a2)] := hl
  unfold cf_X6_point at hR
  unfold vc_X6_point at hV
  refine mu_start (A := A) (fun H locs hP hS => ?_) hP
  refine lv_aload_n hx hb dX6_point_0 rfl (lv_at hl 0 rfl) ?_
  refine lv_iload_n hx hb dX6_point_1 rfl (lv_at hl 1 rfl) ?_
  refine lv_if_lt (tgt := 33) hx hb dX6_point_2 (by decide) (fun c_1 => ?_) (fun c_1 => ?_)
  · rw [if_pos c_1] at hR
    have hV := hV.1 c_1
    exact Ks33  m_th u_F g_F g_R g_C g_L m_rl m_lf m_ov m_pl a0 a1 a2 H locs ls hP hD hS (lv_sub hl [0, 1, 2, 3] rfl) hV hR
  · rw [if_neg c_1] at hR
    have hV := hV.2 c_1
    refine lv_iload_n hx hb dX6_point_5 rfl (lv_at hl 1 rfl) ?_
    refine lv_aload_n hx hb dX6_point_6 rfl (lv_at hl 0 rfl) ?_
    refine va_get (D := (dC, dI)) (ci := 4) (v := .int m_o) (C := RX6) (T := TX6) (N := 25) hx hb hts h1_ hown hK hP 0 rfl rfl 1 (by decide) h3_ (fun _ h9 => h9) rfl dX6_point_7 ?_
    refine lv_icmp_ge (tgt := 33) hx hb dX6_point_10 (by decide) (fun c_4 => ?_) (fun c_4 => ?_)
    · rw [if_pos c_4] at hR
      have hV := hV.1 c_4
      exact Ks33  m_th u_F g_F g_R g_C g_L m_rl m_lf m_ov m_pl a0 a1 a2 H locs ls hP hD hS (lv_sub hl [0, 1, 2, 3] rfl) hV hR
    · rw [if_neg c_4] at hR
      have hV := hV.2 c_4
      refine lv_iload_n hx hb dX6_point_13 rfl (lv_at hl 2 rfl) ?_
      refine lv_if_lt (tgt := 33) hx hb dX6_point_14 (by decide) (fun c_5 => ?_) (fun c_5 => ?_)
      · rw [if_pos c_5] at hR
        have hV := hV.1 c_5
        exact Ks33  m_th u_F g_F g_R g_C g_L m_rl m_lf m_ov m_pl a0 a1 a2 H locs ls hP hD hS (lv_sub hl [0, 1, 2, 3] rfl) hV hR
      · rw [if_neg c_5] at hR
        have hV := hV.2 c_5
        refine lv_iload_n hx hb dX6_point_17 rfl (lv_at hl 2 rfl) ?_
        refine lv_aload_n hx hb dX6_point_18 rfl (lv_at hl 0 rfl) ?_
        refine va_get (D := (dC, dI)) (ci := 4) (v := .int m_f) (C := RX6) (T := TX6) (N := 25) hx hb hts h1_ hown hK hP 0 rfl rfl 2 (by decide) h4_ (fun _ h9 => h9) rfl dX6_point_19 ?_
        refine lv_icmp_ge (tgt := 33) hx hb dX6_point_22 (by decide) (fun c_6 => ?_) (fun c_6 => ?_)
        · rw [if_pos c_6] at hR
          have hV := hV.1 c_6
          exact Ks33  m_th u_F g_F g_R g_C g_L m_rl m_lf m_ov m_pl a0 a1 a2 H locs ls hP hD hS (lv_sub hl [0, 1, 2, 3] rfl) hV hR
        · rw [if_neg c_6] at hR
          have hV := hV.2 c_6
          refine lv_aload_n hx hb dX6_point_25 rfl (lv_at hl 0 rfl) ?_
          refine lv_iload_n hx hb dX6_point_26 rfl (lv_at hl 3 rfl) ?_
          refine rd_calli (va_runV (As := [.int a2]) (rest := [.ref q6]) ⟨hx, hb, hml, hown, hts⟩ (c_X6_isThing l dC dI q6 qA qB qF qR qC qL qS qO qY qH qW qM cyI cyJ cyZ m_th m_o m_f m_r m_b m_a u_F u_R g_F g_R g_C g_L m_rl m_lf m_ov m_pl g_S g_O g_Y g_H m_st g_W m_rm m_fs g_M a2  ) (cwV 1 hts gX6_point_X6_isThing rfl rfl rfl (by decide +kernel) ⟨Nat.le_of_ble_eq_true rfl, Nat.le_of_ble_eq_true rfl⟩) ⟨rd_blind, va_recv hK hP (ci := 4) (q0 := 0) rfl rfl, fun U hU hW => ⟨rfl, by rw [hU]; exact hP, va_K.moved hW.alike (hK.sub [0, 1, 2] rfl)⟩⟩ rfl rfl hl.1 rfl (lv_room (Nat.le_of_ble_eq_true rfl)) dX6_point_27 ⟨Nat.le_refl _, Nat.le_refl _⟩) ?_
          refine lv_if_ne (tgt := 37) hx hb dX6_point_30 (by decide) (fun c_7 => ?_) (fun c_7 => ?_)
          · rw [if_neg c_7] at hR
            have hV := hV.2 c_7
            refine lv_iconst (v := (0 : Int32)) hx hb dX6_point_37 (by decide +kernel) ?_
            exact Ks38  m_th u_F g_F g_R g_C g_L m_rl m_lf m_ov m_pl a0 a1 a2 (0 : Int32) H locs ls hP hD hS (lv_sub hl [0, 1, 2, 3] rfl) hV hR
          · rw [if_pos c_7] at hR
            have hV := hV.1 c_7
            exact Ks33  m_th u_F g_F g_R g_C g_L m_rl m_lf m_ov m_pl a0 a1 a2 H locs ls hP hD hS (lv_sub hl [0, 1, 2, 3] rfl) hV hR
def cf_X6_root_s45  (m_th : Int32) (m_o : Int32) (m_r : Int32) (m_a : Int32) (u_F : Nat → Int32) (u_R : Nat → Int32) (g_F : Nat → Int32) (g_R : Nat → Int32) (g_C : Nat → Int32) (g_L : Nat → Int32) (m_rl : Int32) (m_lf : Int32) (m_ov : Int32) (m_pl : Int64) (y0 : Int64) : Int32 × (Nat → Int32) × (Nat → Int32) × (Nat → Int32) × (Nat → Int32) × (Nat → Int32) × Int32 × Int32 × Int32 × Int64 :=
  (m_th, u_R, g_F, g_R, g_C, g_L, m_rl, m_lf, m_ov, y0)
def cf_X6_root_s26  (m_th : Int32) (m_o : Int32) (m_r : Int32) (m_a : Int32) (u_F : Nat → Int32) (u_R : Nat → Int32) (g_F : Nat → Int32) (g_R : Nat → Int32) (g_C : Nat → Int32) (g_L : Nat → Int32) (m_rl : Int32) (m_lf : Int32) (m_ov : Int32) (m_pl : Int64) (x1 : Int32) (x2 : Int32) (y0 : Int32) : Int32 × (Nat → Int32) × (Nat → Int32) × (Nat → Int32) × (Nat → Int32) × (Nat → Int32) × Int32 × Int32 × Int32 × Int64 :=
  (if (cf_X6_fails m_th y0).2 = 0 then cf_X6_root_s45  ((cf_X6_fails m_th y0).1) m_o m_r m_a u_F (upd u_R (x1).toNatClampNeg x2) ((cf_X6_first m_a u_F (upd u_R (x1).toNatClampNeg x2) g_F g_R g_C g_L m_rl m_lf m_ov ).1) ((cf_X6_first m_a u_F (upd u_R (x1).toNatClampNeg x2) g_F g_R g_C g_L m_rl m_lf m_ov ).2.1) ((cf_X6_first m_a u_F (upd u_R (x1).toNatClampNeg x2) g_F g_R g_C g_L m_rl m_lf m_ov ).2.2.1) ((cf_X6_first m_a u_F (upd u_R (x1).toNatClampNeg x2) g_F g_R g_C g_L m_rl m_lf m_ov ).2.2.2.1) ((cf_X6_first m_a u_F (upd u_R (x1).toNatClampNeg x2) g_F g_R g_C g_L m_rl m_lf m_ov ).2.2.2.2.1) ((cf_X6_first m_a u_F (upd u_R (x1).toNatClampNeg x2) g_F g_R g_C g_L m_rl m_lf m_ov ).2.2.2.2.2.1) ((cf_X6_first m_a u_F (upd u_R (x1).toNatClampNeg x2) g_F g_R g_C g_L m_rl m_lf m_ov ).2.2.2.2.2.2.1) m_pl ((cf_X6_first m_a u_F (upd u_R (x1).toNatClampNeg x2) g_F g_R g_C g_L m_rl m_lf m_ov ).2.2.2.2.2.2.2) else ((cf_X6_fails m_th y0).1, u_R, g_F, g_R, g_C, g_L, m_rl, m_lf, m_ov, m_pl))
def vc_X6_root_s26  (m_th : Int32) (m_o : Int32) (m_r : Int32) (m_a : Int32) (u_F : Nat → Int32) (u_R : Nat → Int32) (g_F : Nat → Int32) (g_R : Nat → Int32) (g_C : Nat → Int32) (g_L : Nat → Int32) (m_rl : Int32) (m_lf : Int32) (m_ov : Int32) (m_pl : Int64) (x1 : Int32) (x2 : Int32) (y0 : Int32) : Prop :=
  (((cf_X6_fails m_th y0).2 = 0 → (vp_in x1 3 ∧ True)) ∧ (¬ (cf_X6_fails m_th y0).2 = 0 → True))
def cf_X6_root_s21  (m_th : Int32) (m_o : Int32) (m_r : Int32) (m_a : Int32) (u_F : Nat → Int32) (u_R : Nat → Int32) (g_F : Nat → Int32) (g_R : Nat → Int32) (g_C : Nat → Int32) (g_L : Nat → Int32) (m_rl : Int32) (m_lf : Int32) (m_ov : Int32) (m_pl : Int64) (x1 : Int32) (x2 : Int32) : Int32 × (Nat → Int32) × (Nat → Int32) × (Nat → Int32) × (Nat → Int32) × (Nat → Int32) × Int32 × Int32 × Int32 × Int64 :=
  cf_X6_root_s26  m_th m_o m_r m_a u_F u_R g_F g_R g_C g_L m_rl m_lf m_ov m_pl x1 x2 (1 : Int32)
def vc_X6_root_s21  (m_th : Int32) (m_o : Int32) (m_r : Int32) (m_a : Int32) (u_F : Nat → Int32) (u_R : Nat → Int32) (g_F : Nat → Int32) (g_R : Nat → Int32) (g_C : Nat → Int32) (g_L : Nat → Int32) (m_rl : Int32) (m_lf : Int32) (m_ov : Int32) (m_pl : Int64) (x1 : Int32) (x2 : Int32) : Prop :=
  vc_X6_root_s26  m_th m_o m_r m_a u_F u_R g_F g_R g_C g_L m_rl m_lf m_ov m_pl x1 x2 (1 : Int32)
def cf_X6_root (m_th : Int32) (m_o : Int32) (m_r : Int32) (m_a : Int32) (u_F : Nat → Int32) (u_R : Nat → Int32) (g_F : Nat → Int32) (g_R : Nat → Int32) (g_C : Nat → Int32) (g_L : Nat → Int32) (m_rl : Int32) (m_lf : Int32) (m_ov : Int32) (m_pl : Int64) (a0 : Int32) (a1 : Int32) : Int32 × (Nat → Int32) × (Nat → Int32) × (Nat → Int32) × (Nat → Int32) × (Nat → Int32) × Int32 × Int32 × Int32 × Int64 :=
  (if a0 < 0 then cf_X6_root_s21  m_th m_o m_r m_a u_F u_R g_F g_R g_C g_L m_rl m_lf m_ov m_pl a0 a1 else (if m_r ≤ a0 then cf_X6_root_s21  m_th m_o m_r m_a u_F u_R g_F g_R g_C g_L m_rl m_lf m_ov m_pl a0 a1 else (if (cf_X6_isThing m_o a1) = 0 then cf_X6_root_s21  m_th m_o m_r m_a u_F u_R g_F g_R g_C g_L m_rl m_lf m_ov m_pl a0 a1 else cf_X6_root_s26  m_th m_o m_r m_a u_F u_R g_F g_R g_C g_L m_rl m_lf m_ov m_pl a0 a1 (0 : Int32))))
def vc_X6_root (m_th : Int32) (m_o : Int32) (m_r : Int32) (m_a : Int32) (u_F : Nat → Int32) (u_R : Nat → Int32) (g_F : Nat → Int32) (g_R : Nat → Int32) (g_C : Nat → Int32) (g_L : Nat → Int32) (m_rl : Int32) (m_lf : Int32) (m_ov : Int32) (m_pl : Int64) (a0 : Int32) (a1 : Int32) : Prop :=
  ((a0 < 0 → vc_X6_root_s21  m_th m_o m_r m_a u_F u_R g_F g_R g_C g_L m_rl m_lf m_ov m_pl a0 a1) ∧ (¬ a0 < 0 → ((m_r ≤ a0 → vc_X6_root_s21  m_th m_o m_r m_a u_F u_R g_F g_R g_C g_L m_rl m_lf m_ov m_pl a0 a1) ∧ (¬ m_r ≤ a0 → (((cf_X6_isThing m_o a1) = 0 → vc_X6_root_s21  m_th m_o m_r m_a u_F u_R g_F g_R g_C g_L m_rl m_lf m_ov m_pl a0 a1) ∧ (¬ (cf_X6_isThing m_o a1) = 0 → vc_X6_root_s26  m_th m_o m_r m_a u_F u_R g_F g_R g_C g_L m_rl m_lf m_ov m_pl a0 a1 (0 : Int32)))))))
set_option maxHeartbeats 4000000 in
set_option maxRecDepth 100000 in
theorem c_X6_root (l : Launch) (dC : Nat → ClassId) (dI : Nat → Nat → Nat) (q6 qA qB qF qR qC qL qS qO qY qH qW qM : Nat) (cyI cyJ cyZ : ClassId) (m_th : Int32) (m_o : Int32) (m_f : Int32) (m_r : Int32) (m_b : Int32) (m_a : Int32) (u_F : Nat → Int32) (u_R : Nat → Int32) (g_F : Nat → Int32) (g_R : Nat → Int32) (g_C : Nat → Int32) (g_L : Nat → Int32) (m_rl : Int32) (m_lf : Int32) (m_ov : Int32) (m_pl : Int64) (g_S : Nat → Int64) (g_O : Nat → Int32) (g_Y : Nat → Int32) (g_H : Nat → Int32) (m_st : Int32) (g_W : Nat → Int32) (m_rm : Int32) (m_fs : Int32) (g_M : Nat → Int32) (sz : Nat) (a0 : Int32) (a1 : Int32)  (hV : vc_X6_root m_th m_o m_r m_a u_F u_R g_F g_R g_C g_L m_rl m_lf m_ov m_pl a0 a1) : Met l yX6_root wsX6_root ({ frames := 2, cells := 0, slots := 0, locals := 44 }) (mu_P [.ref q6, .int a0, .int a1] sz (dC, dI) kcl (mo_W q6 qA qB qF qR qC qL qS qO qY qH qW qM cyI cyJ cyZ m_th m_o m_f m_r m_b m_a u_F u_R g_F g_R g_C g_L m_rl m_lf m_ov m_pl g_S g_O g_Y g_H m_st g_W m_rm m_fs g_M) [(cyI, .int), (cyJ, .long), (cyZ, .boolean)]) (mu_Q none (dC, dI) kcl (mo_W q6 qA qB qF qR qC qL qS qO qY qH qW qM cyI cyJ cyZ ((cf_X6_root m_th m_o m_r m_a u_F u_R g_F g_R g_C g_L m_rl m_lf m_ov m_pl a0 a1).1) m_o m_f m_r m_b m_a u_F ((cf_X6_root m_th m_o m_r m_a u_F u_R g_F g_R g_C g_L m_rl m_lf m_ov m_pl a0 a1).2.1) ((cf_X6_root m_th m_o m_r m_a u_F u_R g_F g_R g_C g_L m_rl m_lf m_ov m_pl a0 a1).2.2.1) ((cf_X6_root m_th m_o m_r m_a u_F u_R g_F g_R g_C g_L m_rl m_lf m_ov m_pl a0 a1).2.2.2.1) ((cf_X6_root m_th m_o m_r m_a u_F u_R g_F g_R g_C g_L m_rl m_lf m_ov m_pl a0 a1).2.2.2.2.1) ((cf_X6_root m_th m_o m_r m_a u_F u_R g_F g_R g_C g_L m_rl m_lf m_ov m_pl a0 a1).2.2.2.2.2.1) ((cf_X6_root m_th m_o m_r m_a u_F u_R g_F g_R g_C g_L m_rl m_lf m_ov m_pl a0 a1).2.2.2.2.2.2.1) ((cf_X6_root m_th m_o m_r m_a u_F u_R g_F g_R g_C g_L m_rl m_lf m_ov m_pl a0 a1).2.2.2.2.2.2.2.1) ((cf_X6_root m_th m_o m_r m_a u_F u_R g_F g_R g_C g_L m_rl m_lf m_ov m_pl a0 a1).2.2.2.2.2.2.2.2.1) ((cf_X6_root m_th m_o m_r m_a u_F u_R g_F g_R g_C g_L m_rl m_lf m_ov m_pl a0 a1).2.2.2.2.2.2.2.2.2) g_S g_O g_Y g_H m_st g_W m_rm m_fs g_M) (va_A (mo_W q6 qA qB qF qR qC qL qS qO qY qH qW qM cyI cyJ cyZ m_th m_o m_f m_r m_b m_a u_F u_R g_F g_R g_C g_L m_rl m_lf m_ov m_pl g_S g_O g_Y g_H m_st g_W m_rm m_fs g_M) sz)) 0 0 (va_A (mo_W q6 qA qB qF qR qC qL qS qO qY qH qW qM cyI cyJ cyZ m_th m_o m_f m_r m_b m_a u_F u_R g_F g_R g_C g_L m_rl m_lf m_ov m_pl g_S g_O g_Y g_H m_st g_W m_rm m_fs g_M) sz) := by
  refine Met.ofW (cc := cX6_root) (maxL := 3) (ret := none) (by decide) rfl ?_
  intro p e s m args below meth c s₁ B hml hv
  obtain ⟨rfl, hsz, hP, hK, hD0⟩ := hv
  have hx := B.exec
  have hb := B.bytes
  have hr := B.returns
  have hts := atoms_spec (ws := wsX6_root) B.pre
  have hown : s.vm.findClass RX6 = some m.cls := findClass_of_methodNamed B.named
  have hlocks := B.notSynchronized
  subst hsz
  have hD := hD0.self (sz := s.heap.size)
  generalize hAe : va_A (mo_W q6 qA qB qF qR qC qL qS qO qY qH qW qM cyI cyJ cyZ m_th m_o m_f m_r m_b m_a u_F u_R g_F g_R g_C g_L m_rl m_lf m_ov m_pl g_S g_O g_Y g_H m_st g_W m_rm m_fs g_M) s.heap.size = A at hD ⊢
  have hA : ∀ q : Nat, s.heap.size ≤ q → A q := fun q h => by rw [← hAe]; exact Or.inr h
  have hP : va_P (dC, dI) kcl (mo_W q6 qA qB qF qR qC qL qS qO qY qH qW qM cyI cyJ cyZ m_th m_o m_f m_r m_b m_a u_F u_R g_F g_R g_C g_L m_rl m_lf m_ov m_pl g_S g_O g_Y g_H m_st g_W m_rm m_fs g_M) s.heap := hP
  have h0_ : (Cond.fieldLink RX6 26 "ColourTrierModel" "firstRoot" "[I").before _ s = true := hts _ (by decide +kernel)
  have h1_ : ∀ w ∈ u_ws RX6 TX6 25, w ∈ wsX6_root := fun w h => List.mem_cons_of_mem _ (List.mem_append_right _ h)
  have h2_ : (Cond.fieldLink RX6 66 "ColourTrierModel" "played" "J").before _ s = true := hts _ (by decide +kernel)
  have h3_ : (Cond.fieldLink RX6 19 "ColourTrierModel" "roots" "I").before _ s = true := hts _ (by decide +kernel)
  generalize hR : (cf_X6_root m_th m_o m_r m_a u_F u_R g_F g_R g_C g_L m_rl m_lf m_ov m_pl a0 a1) = R
  have Ks45 : ∀  (m_th : Int32) (u_R : Nat → Int32) (g_F : Nat → Int32) (g_R : Nat → Int32) (g_C : Nat → Int32) (g_L : Nat → Int32) (m_rl : Int32) (m_lf : Int32) (m_ov : Int32) (m_pl : Int64) (y0 : Int64) (H : Heap) (locs : List Loc) (ls : Array Slot), va_P (dC, dI) kcl (mo_W q6 qA qB qF qR qC qL qS qO qY qH qW qM cyI cyJ cyZ m_th m_o m_f m_r m_b m_a u_F u_R g_F g_R g_C g_L m_rl m_lf m_ov m_pl g_S g_O g_Y g_H m_st g_W m_rm m_fs g_M) H → va_D A (mo_W q6 qA qB qF qR qC qL qS qO qY qH qW qM cyI cyJ cyZ m_th m_o m_f m_r m_b m_a u_F u_R g_F g_R g_C g_L m_rl m_lf m_ov m_pl g_S g_O g_Y g_H m_st g_W m_rm m_fs g_M) → va_S A s.heap H locs → lv_has ls 3 [] → cf_X6_root_s45  m_th m_o m_r m_a u_F u_R g_F g_R g_C g_L m_rl m_lf m_ov m_pl y0 = R → W p l e (headSpec wsX6_root ({ frames := 2, cells := 0, slots := 0, locals := 44 })).room s m ([.ref q6, .int a0, .int a1] : List Value).toArray below meth c H locs 0 0 (MQ below (mu_Q none (dC, dI) kcl (mo_W q6 qA qB qF qR qC qL qS qO qY qH qW qM cyI cyJ cyZ R.1 m_o m_f m_r m_b m_a u_F R.2.1 R.2.2.1 R.2.2.2.1 R.2.2.2.2.1 R.2.2.2.2.2.1 R.2.2.2.2.2.2.1 R.2.2.2.2.2.2.2.1 R.2.2.2.2.2.2.2.2.1 R.2.2.2.2.2.2.2.2.2 g_S g_O g_Y g_H m_st g_W m_rm m_fs g_M) A) ([.ref q6, .int a0, .int a1] : List Value).toArray s 0 0 A) (F0 m 45 ls [.long y0, .ref q6]) := by
    intro  m_th u_R g_F g_R g_C g_L m_rl m_lf m_ov m_pl y0 H locs ls hP hD hS hl hR
    unfold cf_X6_root_s45 at hR
    refine va_put (D := (dC, dI)) (ci := 4) (v := .long y0) (ty := .long) (C := RX6) (T := TX6) (N := 25) hx hb hts h1_ tyX6 tyX6_ok nmX6 hown hK hP hD hS 0 rfl rfl 15 (by decide) h2_ (fun _ h9 => h9) rfl (by decide +kernel) rfl rfl (Nat.le_of_ble_eq_true rfl) dX6_root_45 (fun H locs hP hD hS => ?_)
    have hP : va_P (dC, dI) kcl (mo_W q6 qA qB qF qR qC qL qS qO qY qH qW qM cyI cyJ cyZ m_th m_o m_f m_r m_b m_a u_F u_R g_F g_R g_C g_L m_rl m_lf m_ov y0 g_S g_O g_Y g_H m_st g_W m_rm m_fs g_M) H := hP
    have hD : va_D A (mo_W q6 qA qB qF qR qC qL qS qO qY qH qW qM cyI cyJ cyZ m_th m_o m_f m_r m_b m_a u_F u_R g_F g_R g_C g_L m_rl m_lf m_ov y0 g_S g_O g_Y g_H m_st g_W m_rm m_fs g_M) := hD
    rw [← hR]
    exact W.vret hx hb hr (fun t ht _ => ⟨rfl, by rw [ht]; exact hP, hS.F ht⟩) hS.2.2 dX6_root_48
  have Ks26 : ∀  (m_th : Int32) (u_R : Nat → Int32) (g_F : Nat → Int32) (g_R : Nat → Int32) (g_C : Nat → Int32) (g_L : Nat → Int32) (m_rl : Int32) (m_lf : Int32) (m_ov : Int32) (m_pl : Int64) (x1 : Int32) (x2 : Int32) (y0 : Int32) (H : Heap) (locs : List Loc) (ls : Array Slot), va_P (dC, dI) kcl (mo_W q6 qA qB qF qR qC qL qS qO qY qH qW qM cyI cyJ cyZ m_th m_o m_f m_r m_b m_a u_F u_R g_F g_R g_C g_L m_rl m_lf m_ov m_pl g_S g_O g_Y g_H m_st g_W m_rm m_fs g_M) H → va_D A (mo_W q6 qA qB qF qR qC qL qS qO qY qH qW qM cyI cyJ cyZ m_th m_o m_f m_r m_b m_a u_F u_R g_F g_R g_C g_L m_rl m_lf m_ov m_pl g_S g_O g_Y g_H m_st g_W m_rm m_fs g_M) → va_S A s.heap H locs → lv_has ls 3 [(0, .ref q6), (1, .int x1), (2, .int x2)] → vc_X6_root_s26  m_th m_o m_r m_a u_F u_R g_F g_R g_C g_L m_rl m_lf m_ov m_pl x1 x2 y0 → cf_X6_root_s26  m_th m_o m_r m_a u_F u_R g_F g_R g_C g_L m_rl m_lf m_ov m_pl x1 x2 y0 = R → W p l e (headSpec wsX6_root ({ frames := 2, cells := 0, slots := 0, locals := 44 })).room s m ([.ref q6, .int a0, .int a1] : List Value).toArray below meth c H locs 0 0 (MQ below (mu_Q none (dC, dI) kcl (mo_W q6 qA qB qF qR qC qL qS qO qY qH qW qM cyI cyJ cyZ R.1 m_o m_f m_r m_b m_a u_F R.2.1 R.2.2.1 R.2.2.2.1 R.2.2.2.2.1 R.2.2.2.2.2.1 R.2.2.2.2.2.2.1 R.2.2.2.2.2.2.2.1 R.2.2.2.2.2.2.2.2.1 R.2.2.2.2.2.2.2.2.2 g_S g_O g_Y g_H m_st g_W m_rm m_fs g_M) A) ([.ref q6, .int a0, .int a1] : List Value).toArray s 0 0 A) (F0 m 26 ls [.int y0, .ref q6]) := by
    intro  m_th u_R g_F g_R g_C g_L m_rl m_lf m_ov m_pl x1 x2 y0 H locs ls hP hD hS hl hV hR
    unfold cf_X6_root_s26 at hR
    unfold vc_X6_root_s26 at hV
    refine mu_call (ws' := (mo_W q6 qA qB qF qR qC qL qS qO qY qH qW qM cyI cyJ cyZ ((cf_X6_fails m_th y0).1) m_o m_f m_r m_b m_a u_F u_R g_F g_R g_C g_L m_rl m_lf m_ov m_pl g_S g_O g_Y g_H m_st g_W m_rm m_fs g_M)) (wr := []) (va_runV (As := [.int y0]) (rest := []) ⟨hx, hb, hml, hown, hts⟩ (c_X6_fails l dC dI q6 qA qB qF qR qC qL qS qO qY qH qW qM cyI cyJ cyZ m_th m_o m_f m_r m_b m_a u_F u_R g_F g_R g_C g_L m_rl m_lf m_ov m_pl g_S g_O g_Y g_H m_st g_W m_rm m_fs g_M H.size y0  ) (cwV 1 hts gX6_root_X6_fails rfl rfl rfl (by decide +kernel) ⟨Nat.le_of_ble_eq_true rfl, Nat.le_of_ble_eq_true rfl⟩) ⟨mu_blind, va_recv hK hP (ci := 4) (q0 := 0) rfl rfl, fun U hU hW => ⟨rfl, by rw [hU], by rw [hU]; exact hP, va_K.moved hW.alike (hK.sub [0, 1, 2] rfl), hD.weaken (fun _ _ _ _ => trivial)⟩⟩ rfl rfl hl.1 rfl (lv_room (Nat.le_of_ble_eq_true rfl)) dX6_root_26 ⟨Nat.le_refl _, Nat.le_refl _⟩) hP hD hS hA [0, 1, 2, 3, 4, 5, 6, 7, 8, 9, 10, 11, 12] [] [0, 1, 2, 3, 4, 5, 6, 7, 8, 9, 10, 11, 12] rfl rfl (by decide) (by decide) (by decide) rfl (by decide) rfl (fun H locs hP hD hS => ?_)
    refine W.eq (g2 := F0 m 29 ls [.int ((cf_X6_fails m_th y0).2)]) rfl ?_
    refine lv_if_eq (tgt := 33) hx hb dX6_root_29 (by decide) (fun c_2 => ?_) (fun c_2 => ?_)
    · rw [if_pos c_2] at hR
      have hV := hV.1 c_2
      refine lv_aload_n hx hb dX6_root_33 rfl (lv_at hl 0 rfl) ?_
      refine va_get (D := (dC, dI)) (ci := 4) (v := .ref qB) (C := RX6) (T := TX6) (N := 25) hx hb hts h1_ hown hK hP 0 rfl rfl 7 (by decide) h0_ (fun _ h9 => h9) rfl dX6_root_34 ?_
      refine lv_iload_n hx hb dX6_root_37 rfl (lv_at hl 1 rfl) ?_
      refine lv_iload_n hx hb dX6_root_38 rfl (lv_at hl 2 rfl) ?_
      obtain ⟨hi3, hV⟩ := hV
      refine va_iast hx hb hK hP hD hS 2 0 rfl rfl hi3 dX6_root_39 (fun H locs hP hD hS => ?_)
      have hP : va_P (dC, dI) kcl (mo_W q6 qA qB qF qR qC qL qS qO qY qH qW qM cyI cyJ cyZ ((cf_X6_fails m_th y0).1) m_o m_f m_r m_b m_a u_F (upd u_R (x1).toNatClampNeg x2) g_F g_R g_C g_L m_rl m_lf m_ov m_pl g_S g_O g_Y g_H m_st g_W m_rm m_fs g_M) H := hP
      have hD : va_D A (mo_W q6 qA qB qF qR qC qL qS qO qY qH qW qM cyI cyJ cyZ ((cf_X6_fails m_th y0).1) m_o m_f m_r m_b m_a u_F (upd u_R (x1).toNatClampNeg x2) g_F g_R g_C g_L m_rl m_lf m_ov m_pl g_S g_O g_Y g_H m_st g_W m_rm m_fs g_M) := hD
      refine lv_aload_n hx hb dX6_root_40 rfl (lv_at hl 0 rfl) ?_
      refine lv_aload_n hx hb dX6_root_41 rfl (lv_at hl 0 rfl) ?_
      refine mu_call (ws' := (mo_W q6 qA qB qF qR qC qL qS qO qY qH qW qM cyI cyJ cyZ ((cf_X6_fails m_th y0).1) m_o m_f m_r m_b m_a u_F (upd u_R (x1).toNatClampNeg x2) ((cf_X6_first m_a u_F (upd u_R (x1).toNatClampNeg x2) g_F g_R g_C g_L m_rl m_lf m_ov ).1) ((cf_X6_first m_a u_F (upd u_R (x1).toNatClampNeg x2) g_F g_R g_C g_L m_rl m_lf m_ov ).2.1) ((cf_X6_first m_a u_F (upd u_R (x1).toNatClampNeg x2) g_F g_R g_C g_L m_rl m_lf m_ov ).2.2.1) ((cf_X6_first m_a u_F (upd u_R (x1).toNatClampNeg x2) g_F g_R g_C g_L m_rl m_lf m_ov ).2.2.2.1) ((cf_X6_first m_a u_F (upd u_R (x1).toNatClampNeg x2) g_F g_R g_C g_L m_rl m_lf m_ov ).2.2.2.2.1) ((cf_X6_first m_a u_F (upd u_R (x1).toNatClampNeg x2) g_F g_R g_C g_L m_rl m_lf m_ov ).2.2.2.2.2.1) ((cf_X6_first m_a u_F (upd u_R (x1).toNatClampNeg x2) g_F g_R g_C g_L m_rl m_lf m_ov ).2.2.2.2.2.2.1) m_pl g_S g_O g_Y g_H m_st g_W m_rm m_fs g_M)) (wr := []) (va_runV (As := []) (rest := [.ref q6]) ⟨hx, hb, hml, hown, hts⟩ (c_X6_first l dC dI q6 qA qB qF qR qC qL qS qO qY qH qW qM cyI cyJ cyZ ((cf_X6_fails m_th y0).1) m_o m_f m_r m_b m_a u_F (upd u_R (x1).toNatClampNeg x2) g_F g_R g_C g_L m_rl m_lf m_ov m_pl g_S g_O g_Y g_H m_st g_W m_rm m_fs g_M H.size   ) (cwV 0 hts gX6_root_X6_first rfl rfl rfl (by decide +kernel) ⟨Nat.le_of_ble_eq_true rfl, Nat.le_of_ble_eq_true rfl⟩) ⟨mu_blind, va_recv hK hP (ci := 4) (q0 := 0) rfl rfl, fun U hU hW => ⟨rfl, by rw [hU], by rw [hU]; exact hP, va_K.moved hW.alike (hK.sub [0, 1, 2] rfl), hD.weaken (fun _ _ _ _ => trivial)⟩⟩ rfl rfl hl.1 rfl (lv_room (Nat.le_of_ble_eq_true rfl)) dX6_root_42 ⟨Nat.le_refl _, Nat.le_refl _⟩) hP hD hS hA [0, 1, 2, 3, 4, 5, 6, 7, 8, 9, 10, 11, 12] [] [0, 1, 2, 3, 4, 5, 6, 7, 8, 9, 10, 11, 12] rfl rfl (by decide) (by decide) (by decide) rfl (by decide) rfl (fun H locs hP hD hS => ?_)
      refine W.eq (g2 := F0 m 45 ls [.long ((cf_X6_first m_a u_F (upd u_R (x1).toNatClampNeg x2) g_F g_R g_C g_L m_rl m_lf m_ov ).2.2.2.2.2.2.2), .ref q6]) rfl ?_
      exact Ks45  ((cf_X6_fails m_th y0).1) (upd u_R (x1).toNatClampNeg x2) ((cf_X6_first m_a u_F (upd u_R (x1).toNatClampNeg x2) g_F g_R g_C g_L m_rl m_lf m_ov ).1) ((cf_X6_first m_a u_F (upd u_R (x1).toNatClampNeg x2) g_F g_R g_C g_L m_rl m_lf m_ov ).2.1) ((cf_X6_first m_a u_F (upd u_R (x1).toNatClampNeg x2) g_F g_R g_C g_L m_rl m_lf m_ov ).2.2.1) ((cf_X6_first m_a u_F (upd u_R (x1).toNatClampNeg x2) g_F g_R g_C g_L m_rl m_lf m_ov ).2.2.2.1) ((cf_X6_first m_a u_F (upd u_R (x1).toNatClampNeg x2) g_F g_R g_C g_L m_rl m_lf m_ov ).2.2.2.2.1) ((cf_X6_first m_a u_F (upd u_R (x1).toNatClampNeg x2) g_F g_R g_C g_L m_rl m_lf m_ov ).2.2.2.2.2.1) ((cf_X6_first m_a u_F (upd u_R (x1).toNatClampNeg x2) g_F g_R g_C g_L m_rl m_lf m_ov ).2.2.2.2.2.2.1) m_pl ((cf_X6_first m_a u_F (upd u_R (x1).toNatClampNeg x2) g_F g_R g_C g_L m_rl m_lf m_ov ).2.2.2.2.2.2.2) H locs ls hP hD hS (lv_sub hl [] rfl) hR
    · rw [if_neg c_2] at hR
      rw [← hR]
      exact W.vret hx hb hr (fun t ht _ => ⟨rfl, by rw [ht]; exact hP, hS.F ht⟩) hS.2.2 dX6_root_32
  have Ks21 : ∀  (m_th : Int32) (u_R : Nat → Int32) (g_F : Nat → Int32) (g_R : Nat → Int32) (g_C : Nat → Int32) (g_L : Nat → Int32) (m_rl : Int32) (m_lf : Int32) (m_ov : Int32) (m_pl : Int64) (x1 : Int32) (x2 : Int32) (H : Heap) (locs : List Loc) (ls : Array Slot), va_P (dC, dI) kcl (mo_W q6 qA qB qF qR qC qL qS qO qY qH qW qM cyI cyJ cyZ m_th m_o m_f m_r m_b m_a u_F u_R g_F g_R g_C g_L m_rl m_lf m_ov m_pl g_S g_O g_Y g_H m_st g_W m_rm m_fs g_M) H → va_D A (mo_W q6 qA qB qF qR qC qL qS qO qY qH qW qM cyI cyJ cyZ m_th m_o m_f m_r m_b m_a u_F u_R g_F g_R g_C g_L m_rl m_lf m_ov m_pl g_S g_O g_Y g_H m_st g_W m_rm m_fs g_M) → va_S A s.heap H locs → lv_has ls 3 [(0, .ref q6), (1, .int x1), (2, .int x2)] → vc_X6_root_s21  m_th m_o m_r m_a u_F u_R g_F g_R g_C g_L m_rl m_lf m_ov m_pl x1 x2 → cf_X6_root_s21  m_th m_o m_r m_a u_F u_R g_F g_R g_C g_L m_rl m_lf m_ov m_pl x1 x2 = R → W p l e (headSpec wsX6_root ({ frames := 2, cells := 0, slots := 0, locals := 44 })).room s m ([.ref q6, .int a0, .int a1] : List Value).toArray below meth c H locs 0 0 (MQ below (mu_Q none (dC, dI) kcl (mo_W q6 qA qB qF qR qC qL qS qO qY qH qW qM cyI cyJ cyZ R.1 m_o m_f m_r m_b m_a u_F R.2.1 R.2.2.1 R.2.2.2.1 R.2.2.2.2.1 R.2.2.2.2.2.1 R.2.2.2.2.2.2.1 R.2.2.2.2.2.2.2.1 R.2.2.2.2.2.2.2.2.1 R.2.2.2.2.2.2.2.2.2 g_S g_O g_Y g_H m_st g_W m_rm m_fs g_M) A) ([.ref q6, .int a0, .int a1] : List Value).toArray s 0 0 A) (F0 m 21 ls [.ref q6]) := by
    intro  m_th u_R g_F g_R g_C g_L m_rl m_lf m_ov m_pl x1 x2 H locs ls hP hD hS hl hV hR
    unfold cf_X6_root_s21 at hR
    unfold vc_X6_root_s21 at hV
    refine lv_iconst (v := (1 : Int32)) hx hb dX6_root_21 (by decide +kernel) ?_
    refine lv_goto (tgt := 26) hx hb dX6_root_22 (by decide) ?_
    exact Ks26  m_th u_R g_F g_R g_C g_L m_rl m_lf m_ov m_pl x1 x2 (1 : Int32) H locs ls hP hD hS (lv_sub hl [0, 1, 2] rfl) hV hR
  have hl := lv_entry ([.ref q6, .int a0, .int a1]) (n := 3) (Nat.le_of_ble_eq_true rfl)
  rw [lg_entry_eq]
  generalize (lg_sl ([.ref q6, .int a0, .int a1]) ++ List.replicate (3 - (lg_sl ([.ref q6, .int a0, .int a1])).length) Slot.unset).toArray = ls at hl ⊢
  have hl : lv_has ls 3 [(0, .ref q6), (1, .int a0), (2, .int a1)] := hl
  unfold cf_X6_root at hR
  unfold vc_X6_root at hV
  refine mu_start (A := A) (fun H locs hP hS => ?_) hP
  refine lv_aload_n hx hb dX6_root_0 rfl (lv_at hl 0 rfl) ?_
  refine lv_iload_n hx hb dX6_root_1 rfl (lv_at hl 1 rfl) ?_
  refine lv_if_lt (tgt := 21) hx hb dX6_root_2 (by decide) (fun c_1 => ?_) (fun c_1 => ?_)
  · rw [if_pos c_1] at hR
    have hV := hV.1 c_1
    exact Ks21  m_th u_R g_F g_R g_C g_L m_rl m_lf m_ov m_pl a0 a1 H locs ls hP hD hS (lv_sub hl [0, 1, 2] rfl) hV hR
  · rw [if_neg c_1] at hR
    have hV := hV.2 c_1
    refine lv_iload_n hx hb dX6_root_5 rfl (lv_at hl 1 rfl) ?_
    refine lv_aload_n hx hb dX6_root_6 rfl (lv_at hl 0 rfl) ?_
    refine va_get (D := (dC, dI)) (ci := 4) (v := .int m_r) (C := RX6) (T := TX6) (N := 25) hx hb hts h1_ hown hK hP 0 rfl rfl 3 (by decide) h3_ (fun _ h9 => h9) rfl dX6_root_7 ?_
    refine lv_icmp_ge (tgt := 21) hx hb dX6_root_10 (by decide) (fun c_4 => ?_) (fun c_4 => ?_)
    · rw [if_pos c_4] at hR
      have hV := hV.1 c_4
      exact Ks21  m_th u_R g_F g_R g_C g_L m_rl m_lf m_ov m_pl a0 a1 H locs ls hP hD hS (lv_sub hl [0, 1, 2] rfl) hV hR
    · rw [if_neg c_4] at hR
      have hV := hV.2 c_4
      refine lv_aload_n hx hb dX6_root_13 rfl (lv_at hl 0 rfl) ?_
      refine lv_iload_n hx hb dX6_root_14 rfl (lv_at hl 2 rfl) ?_
      refine rd_calli (va_runV (As := [.int a1]) (rest := [.ref q6]) ⟨hx, hb, hml, hown, hts⟩ (c_X6_isThing l dC dI q6 qA qB qF qR qC qL qS qO qY qH qW qM cyI cyJ cyZ m_th m_o m_f m_r m_b m_a u_F u_R g_F g_R g_C g_L m_rl m_lf m_ov m_pl g_S g_O g_Y g_H m_st g_W m_rm m_fs g_M a1  ) (cwV 1 hts gX6_root_X6_isThing rfl rfl rfl (by decide +kernel) ⟨Nat.le_of_ble_eq_true rfl, Nat.le_of_ble_eq_true rfl⟩) ⟨rd_blind, va_recv hK hP (ci := 4) (q0 := 0) rfl rfl, fun U hU hW => ⟨rfl, by rw [hU]; exact hP, va_K.moved hW.alike (hK.sub [0, 1, 2] rfl)⟩⟩ rfl rfl hl.1 rfl (lv_room (Nat.le_of_ble_eq_true rfl)) dX6_root_15 ⟨Nat.le_refl _, Nat.le_refl _⟩) ?_
      refine lv_if_ne (tgt := 25) hx hb dX6_root_18 (by decide) (fun c_5 => ?_) (fun c_5 => ?_)
      · rw [if_neg c_5] at hR
        have hV := hV.2 c_5
        refine lv_iconst (v := (0 : Int32)) hx hb dX6_root_25 (by decide +kernel) ?_
        exact Ks26  m_th u_R g_F g_R g_C g_L m_rl m_lf m_ov m_pl a0 a1 (0 : Int32) H locs ls hP hD hS (lv_sub hl [0, 1, 2] rfl) hV hR
      · rw [if_pos c_5] at hR
        have hV := hV.1 c_5
        exact Ks21  m_th u_R g_F g_R g_C g_L m_rl m_lf m_ov m_pl a0 a1 H locs ls hP hD hS (lv_sub hl [0, 1, 2] rfl) hV hR
def cf_X6_rules_s48  (m_th : Int32) (m_b : Int32) (m_a : Int32) (u_F : Nat → Int32) (u_R : Nat → Int32) (g_F : Nat → Int32) (g_R : Nat → Int32) (g_C : Nat → Int32) (g_L : Nat → Int32) (m_rl : Int32) (m_lf : Int32) (m_ov : Int32) (m_pl : Int64) (y0 : Int64) : Int32 × Int32 × Int32 × (Nat → Int32) × (Nat → Int32) × (Nat → Int32) × (Nat → Int32) × Int32 × Int32 × Int32 × Int64 :=
  (m_th, m_b, m_a, g_F, g_R, g_C, g_L, m_rl, m_lf, m_ov, y0)
def cf_X6_rules_s26  (m_th : Int32) (m_b : Int32) (m_a : Int32) (u_F : Nat → Int32) (u_R : Nat → Int32) (g_F : Nat → Int32) (g_R : Nat → Int32) (g_C : Nat → Int32) (g_L : Nat → Int32) (m_rl : Int32) (m_lf : Int32) (m_ov : Int32) (m_pl : Int64) (x1 : Int32) (x2 : Int32) (y0 : Int32) : Int32 × Int32 × Int32 × (Nat → Int32) × (Nat → Int32) × (Nat → Int32) × (Nat → Int32) × Int32 × Int32 × Int32 × Int64 :=
  (if (cf_X6_fails m_th y0).2 = 0 then cf_X6_rules_s48  ((cf_X6_fails m_th y0).1) x1 x2 u_F u_R ((cf_X6_first x2 u_F u_R g_F g_R g_C g_L m_rl m_lf m_ov ).1) ((cf_X6_first x2 u_F u_R g_F g_R g_C g_L m_rl m_lf m_ov ).2.1) ((cf_X6_first x2 u_F u_R g_F g_R g_C g_L m_rl m_lf m_ov ).2.2.1) ((cf_X6_first x2 u_F u_R g_F g_R g_C g_L m_rl m_lf m_ov ).2.2.2.1) ((cf_X6_first x2 u_F u_R g_F g_R g_C g_L m_rl m_lf m_ov ).2.2.2.2.1) ((cf_X6_first x2 u_F u_R g_F g_R g_C g_L m_rl m_lf m_ov ).2.2.2.2.2.1) ((cf_X6_first x2 u_F u_R g_F g_R g_C g_L m_rl m_lf m_ov ).2.2.2.2.2.2.1) m_pl ((cf_X6_first x2 u_F u_R g_F g_R g_C g_L m_rl m_lf m_ov ).2.2.2.2.2.2.2) else ((cf_X6_fails m_th y0).1, m_b, m_a, g_F, g_R, g_C, g_L, m_rl, m_lf, m_ov, m_pl))
def cf_X6_rules_s21  (m_th : Int32) (m_b : Int32) (m_a : Int32) (u_F : Nat → Int32) (u_R : Nat → Int32) (g_F : Nat → Int32) (g_R : Nat → Int32) (g_C : Nat → Int32) (g_L : Nat → Int32) (m_rl : Int32) (m_lf : Int32) (m_ov : Int32) (m_pl : Int64) (x1 : Int32) (x2 : Int32) : Int32 × Int32 × Int32 × (Nat → Int32) × (Nat → Int32) × (Nat → Int32) × (Nat → Int32) × Int32 × Int32 × Int32 × Int64 :=
  cf_X6_rules_s26  m_th m_b m_a u_F u_R g_F g_R g_C g_L m_rl m_lf m_ov m_pl x1 x2 (1 : Int32)
def cf_X6_rules (m_th : Int32) (m_b : Int32) (m_a : Int32) (u_F : Nat → Int32) (u_R : Nat → Int32) (g_F : Nat → Int32) (g_R : Nat → Int32) (g_C : Nat → Int32) (g_L : Nat → Int32) (m_rl : Int32) (m_lf : Int32) (m_ov : Int32) (m_pl : Int64) (a0 : Int32) (a1 : Int32) : Int32 × Int32 × Int32 × (Nat → Int32) × (Nat → Int32) × (Nat → Int32) × (Nat → Int32) × Int32 × Int32 × Int32 × Int64 :=
  (if a0 < 0 then cf_X6_rules_s21  m_th m_b m_a u_F u_R g_F g_R g_C g_L m_rl m_lf m_ov m_pl a0 a1 else (if (127 : Int32) < a0 then cf_X6_rules_s21  m_th m_b m_a u_F u_R g_F g_R g_C g_L m_rl m_lf m_ov m_pl a0 a1 else (if a1 < 0 then cf_X6_rules_s21  m_th m_b m_a u_F u_R g_F g_R g_C g_L m_rl m_lf m_ov m_pl a0 a1 else (if a1 ≤ (8 : Int32) then cf_X6_rules_s26  m_th m_b m_a u_F u_R g_F g_R g_C g_L m_rl m_lf m_ov m_pl a0 a1 (0 : Int32) else cf_X6_rules_s21  m_th m_b m_a u_F u_R g_F g_R g_C g_L m_rl m_lf m_ov m_pl a0 a1))))
set_option maxHeartbeats 4000000 in
set_option maxRecDepth 100000 in
theorem c_X6_rules (l : Launch) (dC : Nat → ClassId) (dI : Nat → Nat → Nat) (q6 qA qB qF qR qC qL qS qO qY qH qW qM : Nat) (cyI cyJ cyZ : ClassId) (m_th : Int32) (m_o : Int32) (m_f : Int32) (m_r : Int32) (m_b : Int32) (m_a : Int32) (u_F : Nat → Int32) (u_R : Nat → Int32) (g_F : Nat → Int32) (g_R : Nat → Int32) (g_C : Nat → Int32) (g_L : Nat → Int32) (m_rl : Int32) (m_lf : Int32) (m_ov : Int32) (m_pl : Int64) (g_S : Nat → Int64) (g_O : Nat → Int32) (g_Y : Nat → Int32) (g_H : Nat → Int32) (m_st : Int32) (g_W : Nat → Int32) (m_rm : Int32) (m_fs : Int32) (g_M : Nat → Int32) (sz : Nat) (a0 : Int32) (a1 : Int32)   : Met l yX6_rules wsX6_rules ({ frames := 2, cells := 0, slots := 0, locals := 44 }) (mu_P [.ref q6, .int a0, .int a1] sz (dC, dI) kcl (mo_W q6 qA qB qF qR qC qL qS qO qY qH qW qM cyI cyJ cyZ m_th m_o m_f m_r m_b m_a u_F u_R g_F g_R g_C g_L m_rl m_lf m_ov m_pl g_S g_O g_Y g_H m_st g_W m_rm m_fs g_M) [(cyI, .int), (cyJ, .long), (cyZ, .boolean)]) (mu_Q none (dC, dI) kcl (mo_W q6 qA qB qF qR qC qL qS qO qY qH qW qM cyI cyJ cyZ ((cf_X6_rules m_th m_b m_a u_F u_R g_F g_R g_C g_L m_rl m_lf m_ov m_pl a0 a1).1) m_o m_f m_r ((cf_X6_rules m_th m_b m_a u_F u_R g_F g_R g_C g_L m_rl m_lf m_ov m_pl a0 a1).2.1) ((cf_X6_rules m_th m_b m_a u_F u_R g_F g_R g_C g_L m_rl m_lf m_ov m_pl a0 a1).2.2.1) u_F u_R ((cf_X6_rules m_th m_b m_a u_F u_R g_F g_R g_C g_L m_rl m_lf m_ov m_pl a0 a1).2.2.2.1) ((cf_X6_rules m_th m_b m_a u_F u_R g_F g_R g_C g_L m_rl m_lf m_ov m_pl a0 a1).2.2.2.2.1) ((cf_X6_rules m_th m_b m_a u_F u_R g_F g_R g_C g_L m_rl m_lf m_ov m_pl a0 a1).2.2.2.2.2.1) ((cf_X6_rules m_th m_b m_a u_F u_R g_F g_R g_C g_L m_rl m_lf m_ov m_pl a0 a1).2.2.2.2.2.2.1) ((cf_X6_rules m_th m_b m_a u_F u_R g_F g_R g_C g_L m_rl m_lf m_ov m_pl a0 a1).2.2.2.2.2.2.2.1) ((cf_X6_rules m_th m_b m_a u_F u_R g_F g_R g_C g_L m_rl m_lf m_ov m_pl a0 a1).2.2.2.2.2.2.2.2.1) ((cf_X6_rules m_th m_b m_a u_F u_R g_F g_R g_C g_L m_rl m_lf m_ov m_pl a0 a1).2.2.2.2.2.2.2.2.2.1) ((cf_X6_rules m_th m_b m_a u_F u_R g_F g_R g_C g_L m_rl m_lf m_ov m_pl a0 a1).2.2.2.2.2.2.2.2.2.2) g_S g_O g_Y g_H m_st g_W m_rm m_fs g_M) (va_A (mo_W q6 qA qB qF qR qC qL qS qO qY qH qW qM cyI cyJ cyZ m_th m_o m_f m_r m_b m_a u_F u_R g_F g_R g_C g_L m_rl m_lf m_ov m_pl g_S g_O g_Y g_H m_st g_W m_rm m_fs g_M) sz)) 0 0 (va_A (mo_W q6 qA qB qF qR qC qL qS qO qY qH qW qM cyI cyJ cyZ m_th m_o m_f m_r m_b m_a u_F u_R g_F g_R g_C g_L m_rl m_lf m_ov m_pl g_S g_O g_Y g_H m_st g_W m_rm m_fs g_M) sz) := by
  refine Met.ofW (cc := cX6_rules) (maxL := 3) (ret := none) (by decide) rfl ?_
  intro p e s m args below meth c s₁ B hml hv
  obtain ⟨rfl, hsz, hP, hK, hD0⟩ := hv
  have hx := B.exec
  have hb := B.bytes
  have hr := B.returns
  have hts := atoms_spec (ws := wsX6_rules) B.pre
  have hown : s.vm.findClass RX6 = some m.cls := findClass_of_methodNamed B.named
  have hlocks := B.notSynchronized
  subst hsz
  have hD := hD0.self (sz := s.heap.size)
  generalize hAe : va_A (mo_W q6 qA qB qF qR qC qL qS qO qY qH qW qM cyI cyJ cyZ m_th m_o m_f m_r m_b m_a u_F u_R g_F g_R g_C g_L m_rl m_lf m_ov m_pl g_S g_O g_Y g_H m_st g_W m_rm m_fs g_M) s.heap.size = A at hD ⊢
  have hA : ∀ q : Nat, s.heap.size ≤ q → A q := fun q h => by rw [← hAe]; exact Or.inr h
  have hP : va_P (dC, dI) kcl (mo_W q6 qA qB qF qR qC qL qS qO qY qH qW qM cyI cyJ cyZ m_th m_o m_f m_r m_b m_a u_F u_R g_F g_R g_C g_L m_rl m_lf m_ov m_pl g_S g_O g_Y g_H m_st g_W m_rm m_fs g_M) s.heap := hP
  have h0_ : (Cond.fieldLink RX6 94 "ColourTrierModel" "barriers" "I").before _ s = true := hts _ (by decide +kernel)
  have h1_ : ∀ w ∈ u_ws RX6 TX6 25, w ∈ wsX6_rules := fun w h => List.mem_cons_of_mem _ (List.mem_append_right _ h)
  have h2_ : (Cond.fieldLink RX6 73 "ColourTrierModel" "acts" "I").before _ s = true := hts _ (by decide +kernel)
  have h3_ : (Cond.fieldLink RX6 66 "ColourTrierModel" "played" "J").before _ s = true := hts _ (by decide +kernel)
  generalize hR : (cf_X6_rules m_th m_b m_a u_F u_R g_F g_R g_C g_L m_rl m_lf m_ov m_pl a0 a1) = R
  have Ks48 : ∀  (m_th : Int32) (m_b : Int32) (m_a : Int32) (g_F : Nat → Int32) (g_R : Nat → Int32) (g_C : Nat → Int32) (g_L : Nat → Int32) (m_rl : Int32) (m_lf : Int32) (m_ov : Int32) (m_pl : Int64) (y0 : Int64) (H : Heap) (locs : List Loc) (ls : Array Slot), va_P (dC, dI) kcl (mo_W q6 qA qB qF qR qC qL qS qO qY qH qW qM cyI cyJ cyZ m_th m_o m_f m_r m_b m_a u_F u_R g_F g_R g_C g_L m_rl m_lf m_ov m_pl g_S g_O g_Y g_H m_st g_W m_rm m_fs g_M) H → va_D A (mo_W q6 qA qB qF qR qC qL qS qO qY qH qW qM cyI cyJ cyZ m_th m_o m_f m_r m_b m_a u_F u_R g_F g_R g_C g_L m_rl m_lf m_ov m_pl g_S g_O g_Y g_H m_st g_W m_rm m_fs g_M) → va_S A s.heap H locs → lv_has ls 3 [] → cf_X6_rules_s48  m_th m_b m_a u_F u_R g_F g_R g_C g_L m_rl m_lf m_ov m_pl y0 = R → W p l e (headSpec wsX6_rules ({ frames := 2, cells := 0, slots := 0, locals := 44 })).room s m ([.ref q6, .int a0, .int a1] : List Value).toArray below meth c H locs 0 0 (MQ below (mu_Q none (dC, dI) kcl (mo_W q6 qA qB qF qR qC qL qS qO qY qH qW qM cyI cyJ cyZ R.1 m_o m_f m_r R.2.1 R.2.2.1 u_F u_R R.2.2.2.1 R.2.2.2.2.1 R.2.2.2.2.2.1 R.2.2.2.2.2.2.1 R.2.2.2.2.2.2.2.1 R.2.2.2.2.2.2.2.2.1 R.2.2.2.2.2.2.2.2.2.1 R.2.2.2.2.2.2.2.2.2.2 g_S g_O g_Y g_H m_st g_W m_rm m_fs g_M) A) ([.ref q6, .int a0, .int a1] : List Value).toArray s 0 0 A) (F0 m 48 ls [.long y0, .ref q6]) := by
    intro  m_th m_b m_a g_F g_R g_C g_L m_rl m_lf m_ov m_pl y0 H locs ls hP hD hS hl hR
    unfold cf_X6_rules_s48 at hR
    refine va_put (D := (dC, dI)) (ci := 4) (v := .long y0) (ty := .long) (C := RX6) (T := TX6) (N := 25) hx hb hts h1_ tyX6 tyX6_ok nmX6 hown hK hP hD hS 0 rfl rfl 15 (by decide) h3_ (fun _ h9 => h9) rfl (by decide +kernel) rfl rfl (Nat.le_of_ble_eq_true rfl) dX6_rules_48 (fun H locs hP hD hS => ?_)
    have hP : va_P (dC, dI) kcl (mo_W q6 qA qB qF qR qC qL qS qO qY qH qW qM cyI cyJ cyZ m_th m_o m_f m_r m_b m_a u_F u_R g_F g_R g_C g_L m_rl m_lf m_ov y0 g_S g_O g_Y g_H m_st g_W m_rm m_fs g_M) H := hP
    have hD : va_D A (mo_W q6 qA qB qF qR qC qL qS qO qY qH qW qM cyI cyJ cyZ m_th m_o m_f m_r m_b m_a u_F u_R g_F g_R g_C g_L m_rl m_lf m_ov y0 g_S g_O g_Y g_H m_st g_W m_rm m_fs g_M) := hD
    rw [← hR]
    exact W.vret hx hb hr (fun t ht _ => ⟨rfl, by rw [ht]; exact hP, hS.F ht⟩) hS.2.2 dX6_rules_51
  have Ks26 : ∀  (m_th : Int32) (m_b : Int32) (m_a : Int32) (g_F : Nat → Int32) (g_R : Nat → Int32) (g_C : Nat → Int32) (g_L : Nat → Int32) (m_rl : Int32) (m_lf : Int32) (m_ov : Int32) (m_pl : Int64) (x1 : Int32) (x2 : Int32) (y0 : Int32) (H : Heap) (locs : List Loc) (ls : Array Slot), va_P (dC, dI) kcl (mo_W q6 qA qB qF qR qC qL qS qO qY qH qW qM cyI cyJ cyZ m_th m_o m_f m_r m_b m_a u_F u_R g_F g_R g_C g_L m_rl m_lf m_ov m_pl g_S g_O g_Y g_H m_st g_W m_rm m_fs g_M) H → va_D A (mo_W q6 qA qB qF qR qC qL qS qO qY qH qW qM cyI cyJ cyZ m_th m_o m_f m_r m_b m_a u_F u_R g_F g_R g_C g_L m_rl m_lf m_ov m_pl g_S g_O g_Y g_H m_st g_W m_rm m_fs g_M) → va_S A s.heap H locs → lv_has ls 3 [(0, .ref q6), (1, .int x1), (2, .int x2)] → cf_X6_rules_s26  m_th m_b m_a u_F u_R g_F g_R g_C g_L m_rl m_lf m_ov m_pl x1 x2 y0 = R → W p l e (headSpec wsX6_rules ({ frames := 2, cells := 0, slots := 0, locals := 44 })).room s m ([.ref q6, .int a0, .int a1] : List Value).toArray below meth c H locs 0 0 (MQ below (mu_Q none (dC, dI) kcl (mo_W q6 qA qB qF qR qC qL qS qO qY qH qW qM cyI cyJ cyZ R.1 m_o m_f m_r R.2.1 R.2.2.1 u_F u_R R.2.2.2.1 R.2.2.2.2.1 R.2.2.2.2.2.1 R.2.2.2.2.2.2.1 R.2.2.2.2.2.2.2.1 R.2.2.2.2.2.2.2.2.1 R.2.2.2.2.2.2.2.2.2.1 R.2.2.2.2.2.2.2.2.2.2 g_S g_O g_Y g_H m_st g_W m_rm m_fs g_M) A) ([.ref q6, .int a0, .int a1] : List Value).toArray s 0 0 A) (F0 m 26 ls [.int y0, .ref q6]) := by
    intro  m_th m_b m_a g_F g_R g_C g_L m_rl m_lf m_ov m_pl x1 x2 y0 H locs ls hP hD hS hl hR
    unfold cf_X6_rules_s26 at hR
    refine mu_call (ws' := (mo_W q6 qA qB qF qR qC qL qS qO qY qH qW qM cyI cyJ cyZ ((cf_X6_fails m_th y0).1) m_o m_f m_r m_b m_a u_F u_R g_F g_R g_C g_L m_rl m_lf m_ov m_pl g_S g_O g_Y g_H m_st g_W m_rm m_fs g_M)) (wr := []) (va_runV (As := [.int y0]) (rest := []) ⟨hx, hb, hml, hown, hts⟩ (c_X6_fails l dC dI q6 qA qB qF qR qC qL qS qO qY qH qW qM cyI cyJ cyZ m_th m_o m_f m_r m_b m_a u_F u_R g_F g_R g_C g_L m_rl m_lf m_ov m_pl g_S g_O g_Y g_H m_st g_W m_rm m_fs g_M H.size y0  ) (cwV 1 hts gX6_rules_X6_fails rfl rfl rfl (by decide +kernel) ⟨Nat.le_of_ble_eq_true rfl, Nat.le_of_ble_eq_true rfl⟩) ⟨mu_blind, va_recv hK hP (ci := 4) (q0 := 0) rfl rfl, fun U hU hW => ⟨rfl, by rw [hU], by rw [hU]; exact hP, va_K.moved hW.alike (hK.sub [0, 1, 2] rfl), hD.weaken (fun _ _ _ _ => trivial)⟩⟩ rfl rfl hl.1 rfl (lv_room (Nat.le_of_ble_eq_true rfl)) dX6_rules_26 ⟨Nat.le_refl _, Nat.le_refl _⟩) hP hD hS hA [0, 1, 2, 3, 4, 5, 6, 7, 8, 9, 10, 11, 12] [] [0, 1, 2, 3, 4, 5, 6, 7, 8, 9, 10, 11, 12] rfl rfl (by decide) (by decide) (by decide) rfl (by decide) rfl (fun H locs hP hD hS => ?_)
    refine W.eq (g2 := F0 m 29 ls [.int ((cf_X6_fails m_th y0).2)]) rfl ?_
    refine lv_if_eq (tgt := 33) hx hb dX6_rules_29 (by decide) (fun c_2 => ?_) (fun c_2 => ?_)
    · rw [if_pos c_2] at hR
      refine lv_aload_n hx hb dX6_rules_33 rfl (lv_at hl 0 rfl) ?_
      refine lv_iload_n hx hb dX6_rules_34 rfl (lv_at hl 1 rfl) ?_
      refine va_put (D := (dC, dI)) (ci := 4) (v := .int x1) (ty := .int) (C := RX6) (T := TX6) (N := 25) hx hb hts h1_ tyX6 tyX6_ok nmX6 hown hK hP hD hS 0 rfl rfl 4 (by decide) h0_ (fun _ h9 => h9) rfl (by decide +kernel) rfl rfl (Nat.le_of_ble_eq_true rfl) dX6_rules_35 (fun H locs hP hD hS => ?_)
      have hP : va_P (dC, dI) kcl (mo_W q6 qA qB qF qR qC qL qS qO qY qH qW qM cyI cyJ cyZ ((cf_X6_fails m_th y0).1) m_o m_f m_r x1 m_a u_F u_R g_F g_R g_C g_L m_rl m_lf m_ov m_pl g_S g_O g_Y g_H m_st g_W m_rm m_fs g_M) H := hP
      have hD : va_D A (mo_W q6 qA qB qF qR qC qL qS qO qY qH qW qM cyI cyJ cyZ ((cf_X6_fails m_th y0).1) m_o m_f m_r x1 m_a u_F u_R g_F g_R g_C g_L m_rl m_lf m_ov m_pl g_S g_O g_Y g_H m_st g_W m_rm m_fs g_M) := hD
      refine lv_aload_n hx hb dX6_rules_38 rfl (lv_at hl 0 rfl) ?_
      refine lv_iload_n hx hb dX6_rules_39 rfl (lv_at hl 2 rfl) ?_
      refine va_put (D := (dC, dI)) (ci := 4) (v := .int x2) (ty := .int) (C := RX6) (T := TX6) (N := 25) hx hb hts h1_ tyX6 tyX6_ok nmX6 hown hK hP hD hS 0 rfl rfl 5 (by decide) h2_ (fun _ h9 => h9) rfl (by decide +kernel) rfl rfl (Nat.le_of_ble_eq_true rfl) dX6_rules_40 (fun H locs hP hD hS => ?_)
      have hP : va_P (dC, dI) kcl (mo_W q6 qA qB qF qR qC qL qS qO qY qH qW qM cyI cyJ cyZ ((cf_X6_fails m_th y0).1) m_o m_f m_r x1 x2 u_F u_R g_F g_R g_C g_L m_rl m_lf m_ov m_pl g_S g_O g_Y g_H m_st g_W m_rm m_fs g_M) H := hP
      have hD : va_D A (mo_W q6 qA qB qF qR qC qL qS qO qY qH qW qM cyI cyJ cyZ ((cf_X6_fails m_th y0).1) m_o m_f m_r x1 x2 u_F u_R g_F g_R g_C g_L m_rl m_lf m_ov m_pl g_S g_O g_Y g_H m_st g_W m_rm m_fs g_M) := hD
      refine lv_aload_n hx hb dX6_rules_43 rfl (lv_at hl 0 rfl) ?_
      refine lv_aload_n hx hb dX6_rules_44 rfl (lv_at hl 0 rfl) ?_
      refine mu_call (ws' := (mo_W q6 qA qB qF qR qC qL qS qO qY qH qW qM cyI cyJ cyZ ((cf_X6_fails m_th y0).1) m_o m_f m_r x1 x2 u_F u_R ((cf_X6_first x2 u_F u_R g_F g_R g_C g_L m_rl m_lf m_ov ).1) ((cf_X6_first x2 u_F u_R g_F g_R g_C g_L m_rl m_lf m_ov ).2.1) ((cf_X6_first x2 u_F u_R g_F g_R g_C g_L m_rl m_lf m_ov ).2.2.1) ((cf_X6_first x2 u_F u_R g_F g_R g_C g_L m_rl m_lf m_ov ).2.2.2.1) ((cf_X6_first x2 u_F u_R g_F g_R g_C g_L m_rl m_lf m_ov ).2.2.2.2.1) ((cf_X6_first x2 u_F u_R g_F g_R g_C g_L m_rl m_lf m_ov ).2.2.2.2.2.1) ((cf_X6_first x2 u_F u_R g_F g_R g_C g_L m_rl m_lf m_ov ).2.2.2.2.2.2.1) m_pl g_S g_O g_Y g_H m_st g_W m_rm m_fs g_M)) (wr := []) (va_runV (As := []) (rest := [.ref q6]) ⟨hx, hb, hml, hown, hts⟩ (c_X6_first l dC dI q6 qA qB qF qR qC qL qS qO qY qH qW qM cyI cyJ cyZ ((cf_X6_fails m_th y0).1) m_o m_f m_r x1 x2 u_F u_R g_F g_R g_C g_L m_rl m_lf m_ov m_pl g_S g_O g_Y g_H m_st g_W m_rm m_fs g_M H.size   ) (cwV 0 hts gX6_rules_X6_first rfl rfl rfl (by decide +kernel) ⟨Nat.le_of_ble_eq_true rfl, Nat.le_of_ble_eq_true rfl⟩) ⟨mu_blind, va_recv hK hP (ci := 4) (q0 := 0) rfl rfl, fun U hU hW => ⟨rfl, by rw [hU], by rw [hU]; exact hP, va_K.moved hW.alike (hK.sub [0, 1, 2] rfl), hD.weaken (fun _ _ _ _ => trivial)⟩⟩ rfl rfl hl.1 rfl (lv_room (Nat.le_of_ble_eq_true rfl)) dX6_rules_45 ⟨Nat.le_refl _, Nat.le_refl _⟩) hP hD hS hA [0, 1, 2, 3, 4, 5, 6, 7, 8, 9, 10, 11, 12] [] [0, 1, 2, 3, 4, 5, 6, 7, 8, 9, 10, 11, 12] rfl rfl (by decide) (by decide) (by decide) rfl (by decide) rfl (fun H locs hP hD hS => ?_)
      refine W.eq (g2 := F0 m 48 ls [.long ((cf_X6_first x2 u_F u_R g_F g_R g_C g_L m_rl m_lf m_ov ).2.2.2.2.2.2.2), .ref q6]) rfl ?_
      exact Ks48  ((cf_X6_fails m_th y0).1) x1 x2 ((cf_X6_first x2 u_F u_R g_F g_R g_C g_L m_rl m_lf m_ov ).1) ((cf_X6_first x2 u_F u_R g_F g_R g_C g_L m_rl m_lf m_ov ).2.1) ((cf_X6_first x2 u_F u_R g_F g_R g_C g_L m_rl m_lf m_ov ).2.2.1) ((cf_X6_first x2 u_F u_R g_F g_R g_C g_L m_rl m_lf m_ov ).2.2.2.1) ((cf_X6_first x2 u_F u_R g_F g_R g_C g_L m_rl m_lf m_ov ).2.2.2.2.1) ((cf_X6_first x2 u_F u_R g_F g_R g_C g_L m_rl m_lf m_ov ).2.2.2.2.2.1) ((cf_X6_first x2 u_F u_R g_F g_R g_C g_L m_rl m_lf m_ov ).2.2.2.2.2.2.1) m_pl ((cf_X6_first x2 u_F u_R g_F g_R g_C g_L m_rl m_lf m_ov ).2.2.2.2.2.2.2) H locs ls hP hD hS (lv_sub hl [] rfl) hR
    · rw [if_neg c_2] at hR
      rw [← hR]
      exact W.vret hx hb hr (fun t ht _ => ⟨rfl, by rw [ht]; exact hP, hS.F ht⟩) hS.2.2 dX6_rules_32
  have Ks21 : ∀  (m_th : Int32) (m_b : Int32) (m_a : Int32) (g_F : Nat → Int32) (g_R : Nat → Int32) (g_C : Nat → Int32) (g_L : Nat → Int32) (m_rl : Int32) (m_lf : Int32) (m_ov : Int32) (m_pl : Int64) (x1 : Int32) (x2 : Int32) (H : Heap) (locs : List Loc) (ls : Array Slot), va_P (dC, dI) kcl (mo_W q6 qA qB qF qR qC qL qS qO qY qH qW qM cyI cyJ cyZ m_th m_o m_f m_r m_b m_a u_F u_R g_F g_R g_C g_L m_rl m_lf m_ov m_pl g_S g_O g_Y g_H m_st g_W m_rm m_fs g_M) H → va_D A (mo_W q6 qA qB qF qR qC qL qS qO qY qH qW qM cyI cyJ cyZ m_th m_o m_f m_r m_b m_a u_F u_R g_F g_R g_C g_L m_rl m_lf m_ov m_pl g_S g_O g_Y g_H m_st g_W m_rm m_fs g_M) → va_S A s.heap H locs → lv_has ls 3 [(0, .ref q6), (1, .int x1), (2, .int x2)] → cf_X6_rules_s21  m_th m_b m_a u_F u_R g_F g_R g_C g_L m_rl m_lf m_ov m_pl x1 x2 = R → W p l e (headSpec wsX6_rules ({ frames := 2, cells := 0, slots := 0, locals := 44 })).room s m ([.ref q6, .int a0, .int a1] : List Value).toArray below meth c H locs 0 0 (MQ below (mu_Q none (dC, dI) kcl (mo_W q6 qA qB qF qR qC qL qS qO qY qH qW qM cyI cyJ cyZ R.1 m_o m_f m_r R.2.1 R.2.2.1 u_F u_R R.2.2.2.1 R.2.2.2.2.1 R.2.2.2.2.2.1 R.2.2.2.2.2.2.1 R.2.2.2.2.2.2.2.1 R.2.2.2.2.2.2.2.2.1 R.2.2.2.2.2.2.2.2.2.1 R.2.2.2.2.2.2.2.2.2.2 g_S g_O g_Y g_H m_st g_W m_rm m_fs g_M) A) ([.ref q6, .int a0, .int a1] : List Value).toArray s 0 0 A) (F0 m 21 ls [.ref q6]) := by
    intro  m_th m_b m_a g_F g_R g_C g_L m_rl m_lf m_ov m_pl x1 x2 H locs ls hP hD hS hl hR
    unfold cf_X6_rules_s21 at hR
    refine lv_iconst (v := (1 : Int32)) hx hb dX6_rules_21 (by decide +kernel) ?_
    refine lv_goto (tgt := 26) hx hb dX6_rules_22 (by decide) ?_
    exact Ks26  m_th m_b m_a g_F g_R g_C g_L m_rl m_lf m_ov m_pl x1 x2 (1 : Int32) H locs ls hP hD hS (lv_sub hl [0, 1, 2] rfl) hR
  have hl := lv_entry ([.ref q6, .int a0, .int a1]) (n := 3) (Nat.le_of_ble_eq_true rfl)
  rw [lg_entry_eq]
  generalize (lg_sl ([.ref q6, .int a0, .int a1]) ++ List.replicate (3 - (lg_sl ([.ref q6, .int a0, .int a1])).length) Slot.unset).toArray = ls at hl ⊢
  have hl : lv_has ls 3 [(0, .ref q6), (1, .int a0), (2, .int a1)] := hl
  unfold cf_X6_rules at hR
  refine mu_start (A := A) (fun H locs hP hS => ?_) hP
  refine lv_aload_n hx hb dX6_rules_0 rfl (lv_at hl 0 rfl) ?_
  refine lv_iload_n hx hb dX6_rules_1 rfl (lv_at hl 1 rfl) ?_
  refine lv_if_lt (tgt := 21) hx hb dX6_rules_2 (by decide) (fun c_1 => ?_) (fun c_1 => ?_)
  · rw [if_pos c_1] at hR
    exact Ks21  m_th m_b m_a g_F g_R g_C g_L m_rl m_lf m_ov m_pl a0 a1 H locs ls hP hD hS (lv_sub hl [0, 1, 2] rfl) hR
  · rw [if_neg c_1] at hR
    refine lv_iload_n hx hb dX6_rules_5 rfl (lv_at hl 1 rfl) ?_
    refine lv_bipush (v := (127 : Int32)) hx hb dX6_rules_6 (by decide +kernel) ?_
    refine lv_icmp_gt (tgt := 21) hx hb dX6_rules_8 (by decide) (fun c_3 => ?_) (fun c_3 => ?_)
    · rw [if_pos c_3] at hR
      exact Ks21  m_th m_b m_a g_F g_R g_C g_L m_rl m_lf m_ov m_pl a0 a1 H locs ls hP hD hS (lv_sub hl [0, 1, 2] rfl) hR
    · rw [if_neg c_3] at hR
      refine lv_iload_n hx hb dX6_rules_11 rfl (lv_at hl 2 rfl) ?_
      refine lv_if_lt (tgt := 21) hx hb dX6_rules_12 (by decide) (fun c_4 => ?_) (fun c_4 => ?_)
      · rw [if_pos c_4] at hR
        exact Ks21  m_th m_b m_a g_F g_R g_C g_L m_rl m_lf m_ov m_pl a0 a1 H locs ls hP hD hS (lv_sub hl [0, 1, 2] rfl) hR
      · rw [if_neg c_4] at hR
        refine lv_iload_n hx hb dX6_rules_15 rfl (lv_at hl 2 rfl) ?_
        refine lv_bipush (v := (8 : Int32)) hx hb dX6_rules_16 (by decide +kernel) ?_
        refine lv_icmp_le (tgt := 25) hx hb dX6_rules_18 (by decide) (fun c_5 => ?_) (fun c_5 => ?_)
        · rw [if_pos c_5] at hR
          refine lv_iconst (v := (0 : Int32)) hx hb dX6_rules_25 (by decide +kernel) ?_
          exact Ks26  m_th m_b m_a g_F g_R g_C g_L m_rl m_lf m_ov m_pl a0 a1 (0 : Int32) H locs ls hP hD hS (lv_sub hl [0, 1, 2] rfl) hR
        · rw [if_neg c_5] at hR
          exact Ks21  m_th m_b m_a g_F g_R g_C g_L m_rl m_lf m_ov m_pl a0 a1 H locs ls hP hD hS (lv_sub hl [0, 1, 2] rfl) hR
