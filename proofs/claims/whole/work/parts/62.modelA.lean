def cf_X6_isBroken_s24_4 (fu : Nat)  (m_o : Int32) (m_f : Int32) (m_r : Int32) (g_F : Nat → Int32) (g_R : Nat → Int32) (g_C : Nat → Int32) (m_ov : Int32) (g_M : Nat → Int32) (x1 : Int32) : (Nat → Int32) × Int32 :=
  (g_M, (0 : Int32))
def cf_X6_isBroken_s78_3 (fu : Nat)  (m_o : Int32) (m_f : Int32) (m_r : Int32) (g_F : Nat → Int32) (g_R : Nat → Int32) (g_C : Nat → Int32) (m_ov : Int32) (g_M : Nat → Int32) (x1 : Int32) : (Nat → Int32) × Int32 :=
  cf_X6_isBroken_s24_4 fu  m_o m_f m_r g_F g_R g_C m_ov g_M x1
def cf_X6_isBroken_s76 (fu : Nat)  (m_o : Int32) (m_f : Int32) (m_r : Int32) (g_F : Nat → Int32) (g_R : Nat → Int32) (g_C : Nat → Int32) (m_ov : Int32) (g_M : Nat → Int32)  : (Nat → Int32) × Int32 :=
  (g_M, (1 : Int32))
def cf_X6_isBroken_s24_3 (fu : Nat)  (m_o : Int32) (m_f : Int32) (m_r : Int32) (g_F : Nat → Int32) (g_R : Nat → Int32) (g_C : Nat → Int32) (m_ov : Int32) (g_M : Nat → Int32) (x1 : Int32) : (Nat → Int32) × Int32 :=
  (if m_o ≤ (3 : Int32) then (g_M, (0 : Int32)) else (if x1 = 0 then (if (g_M ((3 : Int32)).toNatClampNeg) = 0 then cf_X6_isBroken_s78_3 fu  m_o m_f m_r g_F g_R g_C m_ov g_M x1 else (if (g_C ((3 : Int32)).toNatClampNeg) = 0 then cf_X6_isBroken_s76 fu  m_o m_f m_r g_F g_R g_C m_ov g_M  else cf_X6_isBroken_s78_3 fu  m_o m_f m_r g_F g_R g_C m_ov g_M x1)) else (if (g_M ((3 : Int32)).toNatClampNeg) = 0 then (if (g_C ((3 : Int32)).toNatClampNeg) = (2 : Int32) then cf_X6_isBroken_s76 fu  m_o m_f m_r g_F g_R g_C m_ov g_M  else cf_X6_isBroken_s78_3 fu  m_o m_f m_r g_F g_R g_C m_ov g_M x1) else cf_X6_isBroken_s78_3 fu  m_o m_f m_r g_F g_R g_C m_ov g_M x1)))
def cf_X6_isBroken_s78_2 (fu : Nat)  (m_o : Int32) (m_f : Int32) (m_r : Int32) (g_F : Nat → Int32) (g_R : Nat → Int32) (g_C : Nat → Int32) (m_ov : Int32) (g_M : Nat → Int32) (x1 : Int32) : (Nat → Int32) × Int32 :=
  cf_X6_isBroken_s24_3 fu  m_o m_f m_r g_F g_R g_C m_ov g_M x1
def cf_X6_isBroken_s24_2 (fu : Nat)  (m_o : Int32) (m_f : Int32) (m_r : Int32) (g_F : Nat → Int32) (g_R : Nat → Int32) (g_C : Nat → Int32) (m_ov : Int32) (g_M : Nat → Int32) (x1 : Int32) : (Nat → Int32) × Int32 :=
  (if m_o ≤ (2 : Int32) then (g_M, (0 : Int32)) else (if x1 = 0 then (if (g_M ((2 : Int32)).toNatClampNeg) = 0 then cf_X6_isBroken_s78_2 fu  m_o m_f m_r g_F g_R g_C m_ov g_M x1 else (if (g_C ((2 : Int32)).toNatClampNeg) = 0 then cf_X6_isBroken_s76 fu  m_o m_f m_r g_F g_R g_C m_ov g_M  else cf_X6_isBroken_s78_2 fu  m_o m_f m_r g_F g_R g_C m_ov g_M x1)) else (if (g_M ((2 : Int32)).toNatClampNeg) = 0 then (if (g_C ((2 : Int32)).toNatClampNeg) = (2 : Int32) then cf_X6_isBroken_s76 fu  m_o m_f m_r g_F g_R g_C m_ov g_M  else cf_X6_isBroken_s78_2 fu  m_o m_f m_r g_F g_R g_C m_ov g_M x1) else cf_X6_isBroken_s78_2 fu  m_o m_f m_r g_F g_R g_C m_ov g_M x1)))
def cf_X6_isBroken_s78_1 (fu : Nat)  (m_o : Int32) (m_f : Int32) (m_r : Int32) (g_F : Nat → Int32) (g_R : Nat → Int32) (g_C : Nat → Int32) (m_ov : Int32) (g_M : Nat → Int32) (x1 : Int32) : (Nat → Int32) × Int32 :=
  cf_X6_isBroken_s24_2 fu  m_o m_f m_r g_F g_R g_C m_ov g_M x1
def cf_X6_isBroken_s24_1 (fu : Nat)  (m_o : Int32) (m_f : Int32) (m_r : Int32) (g_F : Nat → Int32) (g_R : Nat → Int32) (g_C : Nat → Int32) (m_ov : Int32) (g_M : Nat → Int32) (x1 : Int32) : (Nat → Int32) × Int32 :=
  (if m_o ≤ (1 : Int32) then (g_M, (0 : Int32)) else (if x1 = 0 then (if (g_M ((1 : Int32)).toNatClampNeg) = 0 then cf_X6_isBroken_s78_1 fu  m_o m_f m_r g_F g_R g_C m_ov g_M x1 else (if (g_C ((1 : Int32)).toNatClampNeg) = 0 then cf_X6_isBroken_s76 fu  m_o m_f m_r g_F g_R g_C m_ov g_M  else cf_X6_isBroken_s78_1 fu  m_o m_f m_r g_F g_R g_C m_ov g_M x1)) else (if (g_M ((1 : Int32)).toNatClampNeg) = 0 then (if (g_C ((1 : Int32)).toNatClampNeg) = (2 : Int32) then cf_X6_isBroken_s76 fu  m_o m_f m_r g_F g_R g_C m_ov g_M  else cf_X6_isBroken_s78_1 fu  m_o m_f m_r g_F g_R g_C m_ov g_M x1) else cf_X6_isBroken_s78_1 fu  m_o m_f m_r g_F g_R g_C m_ov g_M x1)))
def cf_X6_isBroken_s78_0 (fu : Nat)  (m_o : Int32) (m_f : Int32) (m_r : Int32) (g_F : Nat → Int32) (g_R : Nat → Int32) (g_C : Nat → Int32) (m_ov : Int32) (g_M : Nat → Int32) (x1 : Int32) : (Nat → Int32) × Int32 :=
  cf_X6_isBroken_s24_1 fu  m_o m_f m_r g_F g_R g_C m_ov g_M x1
def cf_X6_isBroken_s24_0 (fu : Nat)  (m_o : Int32) (m_f : Int32) (m_r : Int32) (g_F : Nat → Int32) (g_R : Nat → Int32) (g_C : Nat → Int32) (m_ov : Int32) (g_M : Nat → Int32) (x1 : Int32) : (Nat → Int32) × Int32 :=
  (if m_o ≤ (0 : Int32) then (g_M, (0 : Int32)) else (if x1 = 0 then (if (g_M ((0 : Int32)).toNatClampNeg) = 0 then cf_X6_isBroken_s78_0 fu  m_o m_f m_r g_F g_R g_C m_ov g_M x1 else (if (g_C ((0 : Int32)).toNatClampNeg) = 0 then cf_X6_isBroken_s76 fu  m_o m_f m_r g_F g_R g_C m_ov g_M  else cf_X6_isBroken_s78_0 fu  m_o m_f m_r g_F g_R g_C m_ov g_M x1)) else (if (g_M ((0 : Int32)).toNatClampNeg) = 0 then (if (g_C ((0 : Int32)).toNatClampNeg) = (2 : Int32) then cf_X6_isBroken_s76 fu  m_o m_f m_r g_F g_R g_C m_ov g_M  else cf_X6_isBroken_s78_0 fu  m_o m_f m_r g_F g_R g_C m_ov g_M x1) else cf_X6_isBroken_s78_0 fu  m_o m_f m_r g_F g_R g_C m_ov g_M x1)))
def cf_X6_isBroken_s9 (fu : Nat)  (m_o : Int32) (m_f : Int32) (m_r : Int32) (g_F : Nat → Int32) (g_R : Nat → Int32) (g_C : Nat → Int32) (m_ov : Int32) (g_M : Nat → Int32) (x1 : Int32) : (Nat → Int32) × Int32 :=
  (if m_ov = 0 then (g_M, (0 : Int32)) else cf_X6_isBroken_s24_0 fu  m_o m_f m_r g_F g_R g_C m_ov (cf_X6_markReached fu m_o m_f m_r g_F g_R g_C g_M ) x1)
def vc_X6_isBroken_s9 (fu : Nat)  (m_o : Int32) (m_f : Int32) (m_r : Int32) (g_F : Nat → Int32) (g_R : Nat → Int32) (g_C : Nat → Int32) (m_ov : Int32) (g_M : Nat → Int32) (x1 : Int32) : Prop :=
  ((m_ov = 0 → True) ∧ (¬ m_ov = 0 → (vc_X6_markReached fu m_o m_f m_r g_F g_R g_C g_M  ∧ True)))
def cf_X6_isBroken_s145_4 (fu : Nat)  (m_o : Int32) (m_f : Int32) (m_r : Int32) (g_F : Nat → Int32) (g_R : Nat → Int32) (g_C : Nat → Int32) (m_ov : Int32) (g_M : Nat → Int32)  : (Nat → Int32) × Int32 :=
  (g_M, (0 : Int32))
def cf_X6_isBroken_s221_3 (fu : Nat)  (m_o : Int32) (m_f : Int32) (m_r : Int32) (g_F : Nat → Int32) (g_R : Nat → Int32) (g_C : Nat → Int32) (m_ov : Int32) (g_M : Nat → Int32)  : (Nat → Int32) × Int32 :=
  cf_X6_isBroken_s145_4 fu  m_o m_f m_r g_F g_R g_C m_ov g_M 
def cf_X6_isBroken_s168_3_2 (fu : Nat)  (m_o : Int32) (m_f : Int32) (m_r : Int32) (g_F : Nat → Int32) (g_R : Nat → Int32) (g_C : Nat → Int32) (m_ov : Int32) (g_M : Nat → Int32)  : (Nat → Int32) × Int32 :=
  cf_X6_isBroken_s221_3 fu  m_o m_f m_r g_F g_R g_C m_ov g_M 
def cf_X6_isBroken_s215_3_1 (fu : Nat)  (m_o : Int32) (m_f : Int32) (m_r : Int32) (g_F : Nat → Int32) (g_R : Nat → Int32) (g_C : Nat → Int32) (m_ov : Int32) (g_M : Nat → Int32)  : (Nat → Int32) × Int32 :=
  cf_X6_isBroken_s168_3_2 fu  m_o m_f m_r g_F g_R g_C m_ov g_M 
def cf_X6_isBroken_s168_3_1 (fu : Nat)  (m_o : Int32) (m_f : Int32) (m_r : Int32) (g_F : Nat → Int32) (g_R : Nat → Int32) (g_C : Nat → Int32) (m_ov : Int32) (g_M : Nat → Int32)  : (Nat → Int32) × Int32 :=
  (if m_f ≤ (1 : Int32) then cf_X6_isBroken_s221_3 fu  m_o m_f m_r g_F g_R g_C m_ov g_M  else (if (g_F ((7 : Int32)).toNatClampNeg) < 0 then cf_X6_isBroken_s215_3_1 fu  m_o m_f m_r g_F g_R g_C m_ov g_M  else (if (g_C ((g_F ((7 : Int32)).toNatClampNeg)).toNatClampNeg) = 0 then (if (g_M ((g_F ((7 : Int32)).toNatClampNeg)).toNatClampNeg) = 0 then (g_M, (1 : Int32)) else cf_X6_isBroken_s215_3_1 fu  m_o m_f m_r g_F g_R g_C m_ov g_M ) else cf_X6_isBroken_s215_3_1 fu  m_o m_f m_r g_F g_R g_C m_ov g_M )))
def vc_X6_isBroken_s168_3_1 (fu : Nat)  (m_o : Int32) (m_f : Int32) (m_r : Int32) (g_F : Nat → Int32) (g_R : Nat → Int32) (g_C : Nat → Int32) (m_ov : Int32) (g_M : Nat → Int32)  : Prop :=
  ((m_f ≤ (1 : Int32) → True) ∧ (¬ m_f ≤ (1 : Int32) → (((g_F ((7 : Int32)).toNatClampNeg) < 0 → True) ∧ (¬ (g_F ((7 : Int32)).toNatClampNeg) < 0 → (vp_in (g_F ((7 : Int32)).toNatClampNeg) 4 ∧ (((g_C ((g_F ((7 : Int32)).toNatClampNeg)).toNatClampNeg) = 0 → (vp_in (g_F ((7 : Int32)).toNatClampNeg) 4 ∧ True)) ∧ (¬ (g_C ((g_F ((7 : Int32)).toNatClampNeg)).toNatClampNeg) = 0 → True)))))))
def cf_X6_isBroken_s215_3_0 (fu : Nat)  (m_o : Int32) (m_f : Int32) (m_r : Int32) (g_F : Nat → Int32) (g_R : Nat → Int32) (g_C : Nat → Int32) (m_ov : Int32) (g_M : Nat → Int32)  : (Nat → Int32) × Int32 :=
  cf_X6_isBroken_s168_3_1 fu  m_o m_f m_r g_F g_R g_C m_ov g_M 
def vc_X6_isBroken_s215_3_0 (fu : Nat)  (m_o : Int32) (m_f : Int32) (m_r : Int32) (g_F : Nat → Int32) (g_R : Nat → Int32) (g_C : Nat → Int32) (m_ov : Int32) (g_M : Nat → Int32)  : Prop :=
  vc_X6_isBroken_s168_3_1 fu  m_o m_f m_r g_F g_R g_C m_ov g_M 
def cf_X6_isBroken_s168_3_0 (fu : Nat)  (m_o : Int32) (m_f : Int32) (m_r : Int32) (g_F : Nat → Int32) (g_R : Nat → Int32) (g_C : Nat → Int32) (m_ov : Int32) (g_M : Nat → Int32)  : (Nat → Int32) × Int32 :=
  (if m_f ≤ (0 : Int32) then cf_X6_isBroken_s221_3 fu  m_o m_f m_r g_F g_R g_C m_ov g_M  else (if (g_F ((6 : Int32)).toNatClampNeg) < 0 then cf_X6_isBroken_s215_3_0 fu  m_o m_f m_r g_F g_R g_C m_ov g_M  else (if (g_C ((g_F ((6 : Int32)).toNatClampNeg)).toNatClampNeg) = 0 then (if (g_M ((g_F ((6 : Int32)).toNatClampNeg)).toNatClampNeg) = 0 then (g_M, (1 : Int32)) else cf_X6_isBroken_s215_3_0 fu  m_o m_f m_r g_F g_R g_C m_ov g_M ) else cf_X6_isBroken_s215_3_0 fu  m_o m_f m_r g_F g_R g_C m_ov g_M )))
def vc_X6_isBroken_s168_3_0 (fu : Nat)  (m_o : Int32) (m_f : Int32) (m_r : Int32) (g_F : Nat → Int32) (g_R : Nat → Int32) (g_C : Nat → Int32) (m_ov : Int32) (g_M : Nat → Int32)  : Prop :=
  ((m_f ≤ (0 : Int32) → True) ∧ (¬ m_f ≤ (0 : Int32) → (((g_F ((6 : Int32)).toNatClampNeg) < 0 → vc_X6_isBroken_s215_3_0 fu  m_o m_f m_r g_F g_R g_C m_ov g_M ) ∧ (¬ (g_F ((6 : Int32)).toNatClampNeg) < 0 → (vp_in (g_F ((6 : Int32)).toNatClampNeg) 4 ∧ (((g_C ((g_F ((6 : Int32)).toNatClampNeg)).toNatClampNeg) = 0 → (vp_in (g_F ((6 : Int32)).toNatClampNeg) 4 ∧ (((g_M ((g_F ((6 : Int32)).toNatClampNeg)).toNatClampNeg) = 0 → True) ∧ (¬ (g_M ((g_F ((6 : Int32)).toNatClampNeg)).toNatClampNeg) = 0 → vc_X6_isBroken_s215_3_0 fu  m_o m_f m_r g_F g_R g_C m_ov g_M )))) ∧ (¬ (g_C ((g_F ((6 : Int32)).toNatClampNeg)).toNatClampNeg) = 0 → vc_X6_isBroken_s215_3_0 fu  m_o m_f m_r g_F g_R g_C m_ov g_M )))))))
def cf_X6_isBroken_s145_3 (fu : Nat)  (m_o : Int32) (m_f : Int32) (m_r : Int32) (g_F : Nat → Int32) (g_R : Nat → Int32) (g_C : Nat → Int32) (m_ov : Int32) (g_M : Nat → Int32)  : (Nat → Int32) × Int32 :=
  (if m_o ≤ (3 : Int32) then (g_M, (0 : Int32)) else (if (g_C ((3 : Int32)).toNatClampNeg) = (2 : Int32) then cf_X6_isBroken_s168_3_0 fu  m_o m_f m_r g_F g_R g_C m_ov g_M  else cf_X6_isBroken_s221_3 fu  m_o m_f m_r g_F g_R g_C m_ov g_M ))
def vc_X6_isBroken_s145_3 (fu : Nat)  (m_o : Int32) (m_f : Int32) (m_r : Int32) (g_F : Nat → Int32) (g_R : Nat → Int32) (g_C : Nat → Int32) (m_ov : Int32) (g_M : Nat → Int32)  : Prop :=
  ((m_o ≤ (3 : Int32) → True) ∧ (¬ m_o ≤ (3 : Int32) → (((g_C ((3 : Int32)).toNatClampNeg) = (2 : Int32) → vc_X6_isBroken_s168_3_0 fu  m_o m_f m_r g_F g_R g_C m_ov g_M ) ∧ (¬ (g_C ((3 : Int32)).toNatClampNeg) = (2 : Int32) → True))))
def cf_X6_isBroken_s221_2 (fu : Nat)  (m_o : Int32) (m_f : Int32) (m_r : Int32) (g_F : Nat → Int32) (g_R : Nat → Int32) (g_C : Nat → Int32) (m_ov : Int32) (g_M : Nat → Int32)  : (Nat → Int32) × Int32 :=
  cf_X6_isBroken_s145_3 fu  m_o m_f m_r g_F g_R g_C m_ov g_M 
def vc_X6_isBroken_s221_2 (fu : Nat)  (m_o : Int32) (m_f : Int32) (m_r : Int32) (g_F : Nat → Int32) (g_R : Nat → Int32) (g_C : Nat → Int32) (m_ov : Int32) (g_M : Nat → Int32)  : Prop :=
  vc_X6_isBroken_s145_3 fu  m_o m_f m_r g_F g_R g_C m_ov g_M 
def cf_X6_isBroken_s168_2_2 (fu : Nat)  (m_o : Int32) (m_f : Int32) (m_r : Int32) (g_F : Nat → Int32) (g_R : Nat → Int32) (g_C : Nat → Int32) (m_ov : Int32) (g_M : Nat → Int32)  : (Nat → Int32) × Int32 :=
  cf_X6_isBroken_s221_2 fu  m_o m_f m_r g_F g_R g_C m_ov g_M 
def vc_X6_isBroken_s168_2_2 (fu : Nat)  (m_o : Int32) (m_f : Int32) (m_r : Int32) (g_F : Nat → Int32) (g_R : Nat → Int32) (g_C : Nat → Int32) (m_ov : Int32) (g_M : Nat → Int32)  : Prop :=
  vc_X6_isBroken_s221_2 fu  m_o m_f m_r g_F g_R g_C m_ov g_M 
def cf_X6_isBroken_s215_2_1 (fu : Nat)  (m_o : Int32) (m_f : Int32) (m_r : Int32) (g_F : Nat → Int32) (g_R : Nat → Int32) (g_C : Nat → Int32) (m_ov : Int32) (g_M : Nat → Int32)  : (Nat → Int32) × Int32 :=
  cf_X6_isBroken_s168_2_2 fu  m_o m_f m_r g_F g_R g_C m_ov g_M 
def vc_X6_isBroken_s215_2_1 (fu : Nat)  (m_o : Int32) (m_f : Int32) (m_r : Int32) (g_F : Nat → Int32) (g_R : Nat → Int32) (g_C : Nat → Int32) (m_ov : Int32) (g_M : Nat → Int32)  : Prop :=
  vc_X6_isBroken_s168_2_2 fu  m_o m_f m_r g_F g_R g_C m_ov g_M 
def cf_X6_isBroken_s168_2_1 (fu : Nat)  (m_o : Int32) (m_f : Int32) (m_r : Int32) (g_F : Nat → Int32) (g_R : Nat → Int32) (g_C : Nat → Int32) (m_ov : Int32) (g_M : Nat → Int32)  : (Nat → Int32) × Int32 :=
  (if m_f ≤ (1 : Int32) then cf_X6_isBroken_s221_2 fu  m_o m_f m_r g_F g_R g_C m_ov g_M  else (if (g_F ((5 : Int32)).toNatClampNeg) < 0 then cf_X6_isBroken_s215_2_1 fu  m_o m_f m_r g_F g_R g_C m_ov g_M  else (if (g_C ((g_F ((5 : Int32)).toNatClampNeg)).toNatClampNeg) = 0 then (if (g_M ((g_F ((5 : Int32)).toNatClampNeg)).toNatClampNeg) = 0 then (g_M, (1 : Int32)) else cf_X6_isBroken_s215_2_1 fu  m_o m_f m_r g_F g_R g_C m_ov g_M ) else cf_X6_isBroken_s215_2_1 fu  m_o m_f m_r g_F g_R g_C m_ov g_M )))
def vc_X6_isBroken_s168_2_1 (fu : Nat)  (m_o : Int32) (m_f : Int32) (m_r : Int32) (g_F : Nat → Int32) (g_R : Nat → Int32) (g_C : Nat → Int32) (m_ov : Int32) (g_M : Nat → Int32)  : Prop :=
  ((m_f ≤ (1 : Int32) → vc_X6_isBroken_s221_2 fu  m_o m_f m_r g_F g_R g_C m_ov g_M ) ∧ (¬ m_f ≤ (1 : Int32) → (((g_F ((5 : Int32)).toNatClampNeg) < 0 → vc_X6_isBroken_s215_2_1 fu  m_o m_f m_r g_F g_R g_C m_ov g_M ) ∧ (¬ (g_F ((5 : Int32)).toNatClampNeg) < 0 → (vp_in (g_F ((5 : Int32)).toNatClampNeg) 4 ∧ (((g_C ((g_F ((5 : Int32)).toNatClampNeg)).toNatClampNeg) = 0 → (vp_in (g_F ((5 : Int32)).toNatClampNeg) 4 ∧ (((g_M ((g_F ((5 : Int32)).toNatClampNeg)).toNatClampNeg) = 0 → True) ∧ (¬ (g_M ((g_F ((5 : Int32)).toNatClampNeg)).toNatClampNeg) = 0 → vc_X6_isBroken_s215_2_1 fu  m_o m_f m_r g_F g_R g_C m_ov g_M )))) ∧ (¬ (g_C ((g_F ((5 : Int32)).toNatClampNeg)).toNatClampNeg) = 0 → vc_X6_isBroken_s215_2_1 fu  m_o m_f m_r g_F g_R g_C m_ov g_M )))))))
def cf_X6_isBroken_s215_2_0 (fu : Nat)  (m_o : Int32) (m_f : Int32) (m_r : Int32) (g_F : Nat → Int32) (g_R : Nat → Int32) (g_C : Nat → Int32) (m_ov : Int32) (g_M : Nat → Int32)  : (Nat → Int32) × Int32 :=
  cf_X6_isBroken_s168_2_1 fu  m_o m_f m_r g_F g_R g_C m_ov g_M 
def vc_X6_isBroken_s215_2_0 (fu : Nat)  (m_o : Int32) (m_f : Int32) (m_r : Int32) (g_F : Nat → Int32) (g_R : Nat → Int32) (g_C : Nat → Int32) (m_ov : Int32) (g_M : Nat → Int32)  : Prop :=
  vc_X6_isBroken_s168_2_1 fu  m_o m_f m_r g_F g_R g_C m_ov g_M 
def cf_X6_isBroken_s168_2_0 (fu : Nat)  (m_o : Int32) (m_f : Int32) (m_r : Int32) (g_F : Nat → Int32) (g_R : Nat → Int32) (g_C : Nat → Int32) (m_ov : Int32) (g_M : Nat → Int32)  : (Nat → Int32) × Int32 :=
  (if m_f ≤ (0 : Int32) then cf_X6_isBroken_s221_2 fu  m_o m_f m_r g_F g_R g_C m_ov g_M  else (if (g_F ((4 : Int32)).toNatClampNeg) < 0 then cf_X6_isBroken_s215_2_0 fu  m_o m_f m_r g_F g_R g_C m_ov g_M  else (if (g_C ((g_F ((4 : Int32)).toNatClampNeg)).toNatClampNeg) = 0 then (if (g_M ((g_F ((4 : Int32)).toNatClampNeg)).toNatClampNeg) = 0 then (g_M, (1 : Int32)) else cf_X6_isBroken_s215_2_0 fu  m_o m_f m_r g_F g_R g_C m_ov g_M ) else cf_X6_isBroken_s215_2_0 fu  m_o m_f m_r g_F g_R g_C m_ov g_M )))
def vc_X6_isBroken_s168_2_0 (fu : Nat)  (m_o : Int32) (m_f : Int32) (m_r : Int32) (g_F : Nat → Int32) (g_R : Nat → Int32) (g_C : Nat → Int32) (m_ov : Int32) (g_M : Nat → Int32)  : Prop :=
  ((m_f ≤ (0 : Int32) → vc_X6_isBroken_s221_2 fu  m_o m_f m_r g_F g_R g_C m_ov g_M ) ∧ (¬ m_f ≤ (0 : Int32) → (((g_F ((4 : Int32)).toNatClampNeg) < 0 → vc_X6_isBroken_s215_2_0 fu  m_o m_f m_r g_F g_R g_C m_ov g_M ) ∧ (¬ (g_F ((4 : Int32)).toNatClampNeg) < 0 → (vp_in (g_F ((4 : Int32)).toNatClampNeg) 4 ∧ (((g_C ((g_F ((4 : Int32)).toNatClampNeg)).toNatClampNeg) = 0 → (vp_in (g_F ((4 : Int32)).toNatClampNeg) 4 ∧ (((g_M ((g_F ((4 : Int32)).toNatClampNeg)).toNatClampNeg) = 0 → True) ∧ (¬ (g_M ((g_F ((4 : Int32)).toNatClampNeg)).toNatClampNeg) = 0 → vc_X6_isBroken_s215_2_0 fu  m_o m_f m_r g_F g_R g_C m_ov g_M )))) ∧ (¬ (g_C ((g_F ((4 : Int32)).toNatClampNeg)).toNatClampNeg) = 0 → vc_X6_isBroken_s215_2_0 fu  m_o m_f m_r g_F g_R g_C m_ov g_M )))))))
def cf_X6_isBroken_s145_2 (fu : Nat)  (m_o : Int32) (m_f : Int32) (m_r : Int32) (g_F : Nat → Int32) (g_R : Nat → Int32) (g_C : Nat → Int32) (m_ov : Int32) (g_M : Nat → Int32)  : (Nat → Int32) × Int32 :=
  (if m_o ≤ (2 : Int32) then (g_M, (0 : Int32)) else (if (g_C ((2 : Int32)).toNatClampNeg) = (2 : Int32) then cf_X6_isBroken_s168_2_0 fu  m_o m_f m_r g_F g_R g_C m_ov g_M  else cf_X6_isBroken_s221_2 fu  m_o m_f m_r g_F g_R g_C m_ov g_M ))
def vc_X6_isBroken_s145_2 (fu : Nat)  (m_o : Int32) (m_f : Int32) (m_r : Int32) (g_F : Nat → Int32) (g_R : Nat → Int32) (g_C : Nat → Int32) (m_ov : Int32) (g_M : Nat → Int32)  : Prop :=
  ((m_o ≤ (2 : Int32) → True) ∧ (¬ m_o ≤ (2 : Int32) → (((g_C ((2 : Int32)).toNatClampNeg) = (2 : Int32) → vc_X6_isBroken_s168_2_0 fu  m_o m_f m_r g_F g_R g_C m_ov g_M ) ∧ (¬ (g_C ((2 : Int32)).toNatClampNeg) = (2 : Int32) → vc_X6_isBroken_s221_2 fu  m_o m_f m_r g_F g_R g_C m_ov g_M ))))
def cf_X6_isBroken_s221_1 (fu : Nat)  (m_o : Int32) (m_f : Int32) (m_r : Int32) (g_F : Nat → Int32) (g_R : Nat → Int32) (g_C : Nat → Int32) (m_ov : Int32) (g_M : Nat → Int32)  : (Nat → Int32) × Int32 :=
  cf_X6_isBroken_s145_2 fu  m_o m_f m_r g_F g_R g_C m_ov g_M 
def vc_X6_isBroken_s221_1 (fu : Nat)  (m_o : Int32) (m_f : Int32) (m_r : Int32) (g_F : Nat → Int32) (g_R : Nat → Int32) (g_C : Nat → Int32) (m_ov : Int32) (g_M : Nat → Int32)  : Prop :=
  vc_X6_isBroken_s145_2 fu  m_o m_f m_r g_F g_R g_C m_ov g_M 
def cf_X6_isBroken_s168_1_2 (fu : Nat)  (m_o : Int32) (m_f : Int32) (m_r : Int32) (g_F : Nat → Int32) (g_R : Nat → Int32) (g_C : Nat → Int32) (m_ov : Int32) (g_M : Nat → Int32)  : (Nat → Int32) × Int32 :=
  cf_X6_isBroken_s221_1 fu  m_o m_f m_r g_F g_R g_C m_ov g_M 
def vc_X6_isBroken_s168_1_2 (fu : Nat)  (m_o : Int32) (m_f : Int32) (m_r : Int32) (g_F : Nat → Int32) (g_R : Nat → Int32) (g_C : Nat → Int32) (m_ov : Int32) (g_M : Nat → Int32)  : Prop :=
  vc_X6_isBroken_s221_1 fu  m_o m_f m_r g_F g_R g_C m_ov g_M 
def cf_X6_isBroken_s215_1_1 (fu : Nat)  (m_o : Int32) (m_f : Int32) (m_r : Int32) (g_F : Nat → Int32) (g_R : Nat → Int32) (g_C : Nat → Int32) (m_ov : Int32) (g_M : Nat → Int32)  : (Nat → Int32) × Int32 :=
  cf_X6_isBroken_s168_1_2 fu  m_o m_f m_r g_F g_R g_C m_ov g_M 
def vc_X6_isBroken_s215_1_1 (fu : Nat)  (m_o : Int32) (m_f : Int32) (m_r : Int32) (g_F : Nat → Int32) (g_R : Nat → Int32) (g_C : Nat → Int32) (m_ov : Int32) (g_M : Nat → Int32)  : Prop :=
  vc_X6_isBroken_s168_1_2 fu  m_o m_f m_r g_F g_R g_C m_ov g_M 
def cf_X6_isBroken_s168_1_1 (fu : Nat)  (m_o : Int32) (m_f : Int32) (m_r : Int32) (g_F : Nat → Int32) (g_R : Nat → Int32) (g_C : Nat → Int32) (m_ov : Int32) (g_M : Nat → Int32)  : (Nat → Int32) × Int32 :=
  (if m_f ≤ (1 : Int32) then cf_X6_isBroken_s221_1 fu  m_o m_f m_r g_F g_R g_C m_ov g_M  else (if (g_F ((3 : Int32)).toNatClampNeg) < 0 then cf_X6_isBroken_s215_1_1 fu  m_o m_f m_r g_F g_R g_C m_ov g_M  else (if (g_C ((g_F ((3 : Int32)).toNatClampNeg)).toNatClampNeg) = 0 then (if (g_M ((g_F ((3 : Int32)).toNatClampNeg)).toNatClampNeg) = 0 then (g_M, (1 : Int32)) else cf_X6_isBroken_s215_1_1 fu  m_o m_f m_r g_F g_R g_C m_ov g_M ) else cf_X6_isBroken_s215_1_1 fu  m_o m_f m_r g_F g_R g_C m_ov g_M )))
def vc_X6_isBroken_s168_1_1 (fu : Nat)  (m_o : Int32) (m_f : Int32) (m_r : Int32) (g_F : Nat → Int32) (g_R : Nat → Int32) (g_C : Nat → Int32) (m_ov : Int32) (g_M : Nat → Int32)  : Prop :=
  ((m_f ≤ (1 : Int32) → vc_X6_isBroken_s221_1 fu  m_o m_f m_r g_F g_R g_C m_ov g_M ) ∧ (¬ m_f ≤ (1 : Int32) → (((g_F ((3 : Int32)).toNatClampNeg) < 0 → vc_X6_isBroken_s215_1_1 fu  m_o m_f m_r g_F g_R g_C m_ov g_M ) ∧ (¬ (g_F ((3 : Int32)).toNatClampNeg) < 0 → (vp_in (g_F ((3 : Int32)).toNatClampNeg) 4 ∧ (((g_C ((g_F ((3 : Int32)).toNatClampNeg)).toNatClampNeg) = 0 → (vp_in (g_F ((3 : Int32)).toNatClampNeg) 4 ∧ (((g_M ((g_F ((3 : Int32)).toNatClampNeg)).toNatClampNeg) = 0 → True) ∧ (¬ (g_M ((g_F ((3 : Int32)).toNatClampNeg)).toNatClampNeg) = 0 → vc_X6_isBroken_s215_1_1 fu  m_o m_f m_r g_F g_R g_C m_ov g_M )))) ∧ (¬ (g_C ((g_F ((3 : Int32)).toNatClampNeg)).toNatClampNeg) = 0 → vc_X6_isBroken_s215_1_1 fu  m_o m_f m_r g_F g_R g_C m_ov g_M )))))))
def cf_X6_isBroken_s215_1_0 (fu : Nat)  (m_o : Int32) (m_f : Int32) (m_r : Int32) (g_F : Nat → Int32) (g_R : Nat → Int32) (g_C : Nat → Int32) (m_ov : Int32) (g_M : Nat → Int32)  : (Nat → Int32) × Int32 :=
  cf_X6_isBroken_s168_1_1 fu  m_o m_f m_r g_F g_R g_C m_ov g_M 
def vc_X6_isBroken_s215_1_0 (fu : Nat)  (m_o : Int32) (m_f : Int32) (m_r : Int32) (g_F : Nat → Int32) (g_R : Nat → Int32) (g_C : Nat → Int32) (m_ov : Int32) (g_M : Nat → Int32)  : Prop :=
  vc_X6_isBroken_s168_1_1 fu  m_o m_f m_r g_F g_R g_C m_ov g_M 
def cf_X6_isBroken_s168_1_0 (fu : Nat)  (m_o : Int32) (m_f : Int32) (m_r : Int32) (g_F : Nat → Int32) (g_R : Nat → Int32) (g_C : Nat → Int32) (m_ov : Int32) (g_M : Nat → Int32)  : (Nat → Int32) × Int32 :=
  (if m_f ≤ (0 : Int32) then cf_X6_isBroken_s221_1 fu  m_o m_f m_r g_F g_R g_C m_ov g_M  else (if (g_F ((2 : Int32)).toNatClampNeg) < 0 then cf_X6_isBroken_s215_1_0 fu  m_o m_f m_r g_F g_R g_C m_ov g_M  else (if (g_C ((g_F ((2 : Int32)).toNatClampNeg)).toNatClampNeg) = 0 then (if (g_M ((g_F ((2 : Int32)).toNatClampNeg)).toNatClampNeg) = 0 then (g_M, (1 : Int32)) else cf_X6_isBroken_s215_1_0 fu  m_o m_f m_r g_F g_R g_C m_ov g_M ) else cf_X6_isBroken_s215_1_0 fu  m_o m_f m_r g_F g_R g_C m_ov g_M )))
def vc_X6_isBroken_s168_1_0 (fu : Nat)  (m_o : Int32) (m_f : Int32) (m_r : Int32) (g_F : Nat → Int32) (g_R : Nat → Int32) (g_C : Nat → Int32) (m_ov : Int32) (g_M : Nat → Int32)  : Prop :=
  ((m_f ≤ (0 : Int32) → vc_X6_isBroken_s221_1 fu  m_o m_f m_r g_F g_R g_C m_ov g_M ) ∧ (¬ m_f ≤ (0 : Int32) → (((g_F ((2 : Int32)).toNatClampNeg) < 0 → vc_X6_isBroken_s215_1_0 fu  m_o m_f m_r g_F g_R g_C m_ov g_M ) ∧ (¬ (g_F ((2 : Int32)).toNatClampNeg) < 0 → (vp_in (g_F ((2 : Int32)).toNatClampNeg) 4 ∧ (((g_C ((g_F ((2 : Int32)).toNatClampNeg)).toNatClampNeg) = 0 → (vp_in (g_F ((2 : Int32)).toNatClampNeg) 4 ∧ (((g_M ((g_F ((2 : Int32)).toNatClampNeg)).toNatClampNeg) = 0 → True) ∧ (¬ (g_M ((g_F ((2 : Int32)).toNatClampNeg)).toNatClampNeg) = 0 → vc_X6_isBroken_s215_1_0 fu  m_o m_f m_r g_F g_R g_C m_ov g_M )))) ∧ (¬ (g_C ((g_F ((2 : Int32)).toNatClampNeg)).toNatClampNeg) = 0 → vc_X6_isBroken_s215_1_0 fu  m_o m_f m_r g_F g_R g_C m_ov g_M )))))))
def cf_X6_isBroken_s145_1 (fu : Nat)  (m_o : Int32) (m_f : Int32) (m_r : Int32) (g_F : Nat → Int32) (g_R : Nat → Int32) (g_C : Nat → Int32) (m_ov : Int32) (g_M : Nat → Int32)  : (Nat → Int32) × Int32 :=
  (if m_o ≤ (1 : Int32) then (g_M, (0 : Int32)) else (if (g_C ((1 : Int32)).toNatClampNeg) = (2 : Int32) then cf_X6_isBroken_s168_1_0 fu  m_o m_f m_r g_F g_R g_C m_ov g_M  else cf_X6_isBroken_s221_1 fu  m_o m_f m_r g_F g_R g_C m_ov g_M ))
def vc_X6_isBroken_s145_1 (fu : Nat)  (m_o : Int32) (m_f : Int32) (m_r : Int32) (g_F : Nat → Int32) (g_R : Nat → Int32) (g_C : Nat → Int32) (m_ov : Int32) (g_M : Nat → Int32)  : Prop :=
  ((m_o ≤ (1 : Int32) → True) ∧ (¬ m_o ≤ (1 : Int32) → (((g_C ((1 : Int32)).toNatClampNeg) = (2 : Int32) → vc_X6_isBroken_s168_1_0 fu  m_o m_f m_r g_F g_R g_C m_ov g_M ) ∧ (¬ (g_C ((1 : Int32)).toNatClampNeg) = (2 : Int32) → vc_X6_isBroken_s221_1 fu  m_o m_f m_r g_F g_R g_C m_ov g_M ))))
def cf_X6_isBroken_s221_0 (fu : Nat)  (m_o : Int32) (m_f : Int32) (m_r : Int32) (g_F : Nat → Int32) (g_R : Nat → Int32) (g_C : Nat → Int32) (m_ov : Int32) (g_M : Nat → Int32)  : (Nat → Int32) × Int32 :=
  cf_X6_isBroken_s145_1 fu  m_o m_f m_r g_F g_R g_C m_ov g_M 
def vc_X6_isBroken_s221_0 (fu : Nat)  (m_o : Int32) (m_f : Int32) (m_r : Int32) (g_F : Nat → Int32) (g_R : Nat → Int32) (g_C : Nat → Int32) (m_ov : Int32) (g_M : Nat → Int32)  : Prop :=
  vc_X6_isBroken_s145_1 fu  m_o m_f m_r g_F g_R g_C m_ov g_M 
def cf_X6_isBroken_s168_0_2 (fu : Nat)  (m_o : Int32) (m_f : Int32) (m_r : Int32) (g_F : Nat → Int32) (g_R : Nat → Int32) (g_C : Nat → Int32) (m_ov : Int32) (g_M : Nat → Int32)  : (Nat → Int32) × Int32 :=
  cf_X6_isBroken_s221_0 fu  m_o m_f m_r g_F g_R g_C m_ov g_M 
def vc_X6_isBroken_s168_0_2 (fu : Nat)  (m_o : Int32) (m_f : Int32) (m_r : Int32) (g_F : Nat → Int32) (g_R : Nat → Int32) (g_C : Nat → Int32) (m_ov : Int32) (g_M : Nat → Int32)  : Prop :=
  vc_X6_isBroken_s221_0 fu  m_o m_f m_r g_F g_R g_C m_ov g_M 
def cf_X6_isBroken_s215_0_1 (fu : Nat)  (m_o : Int32) (m_f : Int32) (m_r : Int32) (g_F : Nat → Int32) (g_R : Nat → Int32) (g_C : Nat → Int32) (m_ov : Int32) (g_M : Nat → Int32)  : (Nat → Int32) × Int32 :=
  cf_X6_isBroken_s168_0_2 fu  m_o m_f m_r g_F g_R g_C m_ov g_M 
def vc_X6_isBroken_s215_0_1 (fu : Nat)  (m_o : Int32) (m_f : Int32) (m_r : Int32) (g_F : Nat → Int32) (g_R : Nat → Int32) (g_C : Nat → Int32) (m_ov : Int32) (g_M : Nat → Int32)  : Prop :=
  vc_X6_isBroken_s168_0_2 fu  m_o m_f m_r g_F g_R g_C m_ov g_M 
def cf_X6_isBroken_s168_0_1 (fu : Nat)  (m_o : Int32) (m_f : Int32) (m_r : Int32) (g_F : Nat → Int32) (g_R : Nat → Int32) (g_C : Nat → Int32) (m_ov : Int32) (g_M : Nat → Int32)  : (Nat → Int32) × Int32 :=
  (if m_f ≤ (1 : Int32) then cf_X6_isBroken_s221_0 fu  m_o m_f m_r g_F g_R g_C m_ov g_M  else (if (g_F ((1 : Int32)).toNatClampNeg) < 0 then cf_X6_isBroken_s215_0_1 fu  m_o m_f m_r g_F g_R g_C m_ov g_M  else (if (g_C ((g_F ((1 : Int32)).toNatClampNeg)).toNatClampNeg) = 0 then (if (g_M ((g_F ((1 : Int32)).toNatClampNeg)).toNatClampNeg) = 0 then (g_M, (1 : Int32)) else cf_X6_isBroken_s215_0_1 fu  m_o m_f m_r g_F g_R g_C m_ov g_M ) else cf_X6_isBroken_s215_0_1 fu  m_o m_f m_r g_F g_R g_C m_ov g_M )))
def vc_X6_isBroken_s168_0_1 (fu : Nat)  (m_o : Int32) (m_f : Int32) (m_r : Int32) (g_F : Nat → Int32) (g_R : Nat → Int32) (g_C : Nat → Int32) (m_ov : Int32) (g_M : Nat → Int32)  : Prop :=
  ((m_f ≤ (1 : Int32) → vc_X6_isBroken_s221_0 fu  m_o m_f m_r g_F g_R g_C m_ov g_M ) ∧ (¬ m_f ≤ (1 : Int32) → (((g_F ((1 : Int32)).toNatClampNeg) < 0 → vc_X6_isBroken_s215_0_1 fu  m_o m_f m_r g_F g_R g_C m_ov g_M ) ∧ (¬ (g_F ((1 : Int32)).toNatClampNeg) < 0 → (vp_in (g_F ((1 : Int32)).toNatClampNeg) 4 ∧ (((g_C ((g_F ((1 : Int32)).toNatClampNeg)).toNatClampNeg) = 0 → (vp_in (g_F ((1 : Int32)).toNatClampNeg) 4 ∧ (((g_M ((g_F ((1 : Int32)).toNatClampNeg)).toNatClampNeg) = 0 → True) ∧ (¬ (g_M ((g_F ((1 : Int32)).toNatClampNeg)).toNatClampNeg) = 0 → vc_X6_isBroken_s215_0_1 fu  m_o m_f m_r g_F g_R g_C m_ov g_M )))) ∧ (¬ (g_C ((g_F ((1 : Int32)).toNatClampNeg)).toNatClampNeg) = 0 → vc_X6_isBroken_s215_0_1 fu  m_o m_f m_r g_F g_R g_C m_ov g_M )))))))
def cf_X6_isBroken_s215_0_0 (fu : Nat)  (m_o : Int32) (m_f : Int32) (m_r : Int32) (g_F : Nat → Int32) (g_R : Nat → Int32) (g_C : Nat → Int32) (m_ov : Int32) (g_M : Nat → Int32)  : (Nat → Int32) × Int32 :=
  cf_X6_isBroken_s168_0_1 fu  m_o m_f m_r g_F g_R g_C m_ov g_M 
def vc_X6_isBroken_s215_0_0 (fu : Nat)  (m_o : Int32) (m_f : Int32) (m_r : Int32) (g_F : Nat → Int32) (g_R : Nat → Int32) (g_C : Nat → Int32) (m_ov : Int32) (g_M : Nat → Int32)  : Prop :=
  vc_X6_isBroken_s168_0_1 fu  m_o m_f m_r g_F g_R g_C m_ov g_M 
def cf_X6_isBroken_s168_0_0 (fu : Nat)  (m_o : Int32) (m_f : Int32) (m_r : Int32) (g_F : Nat → Int32) (g_R : Nat → Int32) (g_C : Nat → Int32) (m_ov : Int32) (g_M : Nat → Int32)  : (Nat → Int32) × Int32 :=
  (if m_f ≤ (0 : Int32) then cf_X6_isBroken_s221_0 fu  m_o m_f m_r g_F g_R g_C m_ov g_M  else (if (g_F ((0 : Int32)).toNatClampNeg) < 0 then cf_X6_isBroken_s215_0_0 fu  m_o m_f m_r g_F g_R g_C m_ov g_M  else (if (g_C ((g_F ((0 : Int32)).toNatClampNeg)).toNatClampNeg) = 0 then (if (g_M ((g_F ((0 : Int32)).toNatClampNeg)).toNatClampNeg) = 0 then (g_M, (1 : Int32)) else cf_X6_isBroken_s215_0_0 fu  m_o m_f m_r g_F g_R g_C m_ov g_M ) else cf_X6_isBroken_s215_0_0 fu  m_o m_f m_r g_F g_R g_C m_ov g_M )))
def vc_X6_isBroken_s168_0_0 (fu : Nat)  (m_o : Int32) (m_f : Int32) (m_r : Int32) (g_F : Nat → Int32) (g_R : Nat → Int32) (g_C : Nat → Int32) (m_ov : Int32) (g_M : Nat → Int32)  : Prop :=
  ((m_f ≤ (0 : Int32) → vc_X6_isBroken_s221_0 fu  m_o m_f m_r g_F g_R g_C m_ov g_M ) ∧ (¬ m_f ≤ (0 : Int32) → (((g_F ((0 : Int32)).toNatClampNeg) < 0 → vc_X6_isBroken_s215_0_0 fu  m_o m_f m_r g_F g_R g_C m_ov g_M ) ∧ (¬ (g_F ((0 : Int32)).toNatClampNeg) < 0 → (vp_in (g_F ((0 : Int32)).toNatClampNeg) 4 ∧ (((g_C ((g_F ((0 : Int32)).toNatClampNeg)).toNatClampNeg) = 0 → (vp_in (g_F ((0 : Int32)).toNatClampNeg) 4 ∧ (((g_M ((g_F ((0 : Int32)).toNatClampNeg)).toNatClampNeg) = 0 → True) ∧ (¬ (g_M ((g_F ((0 : Int32)).toNatClampNeg)).toNatClampNeg) = 0 → vc_X6_isBroken_s215_0_0 fu  m_o m_f m_r g_F g_R g_C m_ov g_M )))) ∧ (¬ (g_C ((g_F ((0 : Int32)).toNatClampNeg)).toNatClampNeg) = 0 → vc_X6_isBroken_s215_0_0 fu  m_o m_f m_r g_F g_R g_C m_ov g_M )))))))
def cf_X6_isBroken_s145_0 (fu : Nat)  (m_o : Int32) (m_f : Int32) (m_r : Int32) (g_F : Nat → Int32) (g_R : Nat → Int32) (g_C : Nat → Int32) (m_ov : Int32) (g_M : Nat → Int32)  : (Nat → Int32) × Int32 :=
  (if m_o ≤ (0 : Int32) then (g_M, (0 : Int32)) else (if (g_C ((0 : Int32)).toNatClampNeg) = (2 : Int32) then cf_X6_isBroken_s168_0_0 fu  m_o m_f m_r g_F g_R g_C m_ov g_M  else cf_X6_isBroken_s221_0 fu  m_o m_f m_r g_F g_R g_C m_ov g_M ))
def vc_X6_isBroken_s145_0 (fu : Nat)  (m_o : Int32) (m_f : Int32) (m_r : Int32) (g_F : Nat → Int32) (g_R : Nat → Int32) (g_C : Nat → Int32) (m_ov : Int32) (g_M : Nat → Int32)  : Prop :=
  ((m_o ≤ (0 : Int32) → True) ∧ (¬ m_o ≤ (0 : Int32) → (((g_C ((0 : Int32)).toNatClampNeg) = (2 : Int32) → vc_X6_isBroken_s168_0_0 fu  m_o m_f m_r g_F g_R g_C m_ov g_M ) ∧ (¬ (g_C ((0 : Int32)).toNatClampNeg) = (2 : Int32) → vc_X6_isBroken_s221_0 fu  m_o m_f m_r g_F g_R g_C m_ov g_M ))))
def cf_X6_isBroken_s143 (fu : Nat)  (m_o : Int32) (m_f : Int32) (m_r : Int32) (g_F : Nat → Int32) (g_R : Nat → Int32) (g_C : Nat → Int32) (m_ov : Int32) (g_M : Nat → Int32)  : (Nat → Int32) × Int32 :=
  cf_X6_isBroken_s145_0 fu  m_o m_f m_r g_F g_R g_C m_ov g_M 
def vc_X6_isBroken_s143 (fu : Nat)  (m_o : Int32) (m_f : Int32) (m_r : Int32) (g_F : Nat → Int32) (g_R : Nat → Int32) (g_C : Nat → Int32) (m_ov : Int32) (g_M : Nat → Int32)  : Prop :=
  vc_X6_isBroken_s145_0 fu  m_o m_f m_r g_F g_R g_C m_ov g_M 
def cf_X6_isBroken_s88_4 (fu : Nat)  (m_o : Int32) (m_f : Int32) (m_r : Int32) (g_F : Nat → Int32) (g_R : Nat → Int32) (g_C : Nat → Int32) (m_ov : Int32) (g_M : Nat → Int32) (x1 : Int32) : (Nat → Int32) × Int32 :=
  (if x1 = (2 : Int32) then cf_X6_isBroken_s143 fu  m_o m_f m_r g_F g_R g_C m_ov (cf_X6_spread fu m_o m_f g_F g_C g_M (1 : Int32))  else cf_X6_isBroken_s143 fu  m_o m_f m_r g_F g_R g_C m_ov g_M )
def vc_X6_isBroken_s88_4 (fu : Nat)  (m_o : Int32) (m_f : Int32) (m_r : Int32) (g_F : Nat → Int32) (g_R : Nat → Int32) (g_C : Nat → Int32) (m_ov : Int32) (g_M : Nat → Int32) (x1 : Int32) : Prop :=
  ((x1 = (2 : Int32) → (vc_X6_spread fu m_o m_f g_F g_C g_M (1 : Int32) ∧ vc_X6_isBroken_s143 fu  m_o m_f m_r g_F g_R g_C m_ov (cf_X6_spread fu m_o m_f g_F g_C g_M (1 : Int32)) )) ∧ (¬ x1 = (2 : Int32) → vc_X6_isBroken_s143 fu  m_o m_f m_r g_F g_R g_C m_ov g_M ))
def cf_X6_isBroken_s126_3 (fu : Nat)  (m_o : Int32) (m_f : Int32) (m_r : Int32) (g_F : Nat → Int32) (g_R : Nat → Int32) (g_C : Nat → Int32) (m_ov : Int32) (g_M : Nat → Int32) (x1 : Int32) (y0 : Int32) (y1 : Int32) : (Nat → Int32) × Int32 :=
  cf_X6_isBroken_s88_4 fu  m_o m_f m_r g_F g_R g_C m_ov (upd g_M (y1).toNatClampNeg (vp_nar .boolean y0)) x1
def vc_X6_isBroken_s126_3 (fu : Nat)  (m_o : Int32) (m_f : Int32) (m_r : Int32) (g_F : Nat → Int32) (g_R : Nat → Int32) (g_C : Nat → Int32) (m_ov : Int32) (g_M : Nat → Int32) (x1 : Int32) (y0 : Int32) (y1 : Int32) : Prop :=
  (vp_in y1 4 ∧ vc_X6_isBroken_s88_4 fu  m_o m_f m_r g_F g_R g_C m_ov (upd g_M (y1).toNatClampNeg (vp_nar .boolean y0)) x1)
def cf_X6_isBroken_s125_3 (fu : Nat)  (m_o : Int32) (m_f : Int32) (m_r : Int32) (g_F : Nat → Int32) (g_R : Nat → Int32) (g_C : Nat → Int32) (m_ov : Int32) (g_M : Nat → Int32) (x1 : Int32) (y0 : Int32) : (Nat → Int32) × Int32 :=
  cf_X6_isBroken_s126_3 fu  m_o m_f m_r g_F g_R g_C m_ov g_M x1 (0 : Int32) y0
def vc_X6_isBroken_s125_3 (fu : Nat)  (m_o : Int32) (m_f : Int32) (m_r : Int32) (g_F : Nat → Int32) (g_R : Nat → Int32) (g_C : Nat → Int32) (m_ov : Int32) (g_M : Nat → Int32) (x1 : Int32) (y0 : Int32) : Prop :=
  vc_X6_isBroken_s126_3 fu  m_o m_f m_r g_F g_R g_C m_ov g_M x1 (0 : Int32) y0
def cf_X6_isBroken_s88_3 (fu : Nat)  (m_o : Int32) (m_f : Int32) (m_r : Int32) (g_F : Nat → Int32) (g_R : Nat → Int32) (g_C : Nat → Int32) (m_ov : Int32) (g_M : Nat → Int32) (x1 : Int32) : (Nat → Int32) × Int32 :=
  (if x1 = (2 : Int32) then (if m_o ≤ (3 : Int32) then cf_X6_isBroken_s125_3 fu  m_o m_f m_r g_F g_R g_C m_ov g_M x1 (3 : Int32) else (if (g_C ((3 : Int32)).toNatClampNeg) = (1 : Int32) then cf_X6_isBroken_s126_3 fu  m_o m_f m_r g_F g_R g_C m_ov g_M x1 (1 : Int32) (3 : Int32) else cf_X6_isBroken_s125_3 fu  m_o m_f m_r g_F g_R g_C m_ov g_M x1 (3 : Int32))) else cf_X6_isBroken_s125_3 fu  m_o m_f m_r g_F g_R g_C m_ov g_M x1 (3 : Int32))
def vc_X6_isBroken_s88_3 (fu : Nat)  (m_o : Int32) (m_f : Int32) (m_r : Int32) (g_F : Nat → Int32) (g_R : Nat → Int32) (g_C : Nat → Int32) (m_ov : Int32) (g_M : Nat → Int32) (x1 : Int32) : Prop :=
  ((x1 = (2 : Int32) → ((m_o ≤ (3 : Int32) → vc_X6_isBroken_s125_3 fu  m_o m_f m_r g_F g_R g_C m_ov g_M x1 (3 : Int32)) ∧ (¬ m_o ≤ (3 : Int32) → (((g_C ((3 : Int32)).toNatClampNeg) = (1 : Int32) → vc_X6_isBroken_s126_3 fu  m_o m_f m_r g_F g_R g_C m_ov g_M x1 (1 : Int32) (3 : Int32)) ∧ (¬ (g_C ((3 : Int32)).toNatClampNeg) = (1 : Int32) → vc_X6_isBroken_s125_3 fu  m_o m_f m_r g_F g_R g_C m_ov g_M x1 (3 : Int32)))))) ∧ (¬ x1 = (2 : Int32) → vc_X6_isBroken_s125_3 fu  m_o m_f m_r g_F g_R g_C m_ov g_M x1 (3 : Int32)))
def cf_X6_isBroken_s126_2 (fu : Nat)  (m_o : Int32) (m_f : Int32) (m_r : Int32) (g_F : Nat → Int32) (g_R : Nat → Int32) (g_C : Nat → Int32) (m_ov : Int32) (g_M : Nat → Int32) (x1 : Int32) (y0 : Int32) (y1 : Int32) : (Nat → Int32) × Int32 :=
  cf_X6_isBroken_s88_3 fu  m_o m_f m_r g_F g_R g_C m_ov (upd g_M (y1).toNatClampNeg (vp_nar .boolean y0)) x1
def vc_X6_isBroken_s126_2 (fu : Nat)  (m_o : Int32) (m_f : Int32) (m_r : Int32) (g_F : Nat → Int32) (g_R : Nat → Int32) (g_C : Nat → Int32) (m_ov : Int32) (g_M : Nat → Int32) (x1 : Int32) (y0 : Int32) (y1 : Int32) : Prop :=
  (vp_in y1 4 ∧ vc_X6_isBroken_s88_3 fu  m_o m_f m_r g_F g_R g_C m_ov (upd g_M (y1).toNatClampNeg (vp_nar .boolean y0)) x1)
def cf_X6_isBroken_s125_2 (fu : Nat)  (m_o : Int32) (m_f : Int32) (m_r : Int32) (g_F : Nat → Int32) (g_R : Nat → Int32) (g_C : Nat → Int32) (m_ov : Int32) (g_M : Nat → Int32) (x1 : Int32) (y0 : Int32) : (Nat → Int32) × Int32 :=
  cf_X6_isBroken_s126_2 fu  m_o m_f m_r g_F g_R g_C m_ov g_M x1 (0 : Int32) y0
def vc_X6_isBroken_s125_2 (fu : Nat)  (m_o : Int32) (m_f : Int32) (m_r : Int32) (g_F : Nat → Int32) (g_R : Nat → Int32) (g_C : Nat → Int32) (m_ov : Int32) (g_M : Nat → Int32) (x1 : Int32) (y0 : Int32) : Prop :=
  vc_X6_isBroken_s126_2 fu  m_o m_f m_r g_F g_R g_C m_ov g_M x1 (0 : Int32) y0
def cf_X6_isBroken_s88_2 (fu : Nat)  (m_o : Int32) (m_f : Int32) (m_r : Int32) (g_F : Nat → Int32) (g_R : Nat → Int32) (g_C : Nat → Int32) (m_ov : Int32) (g_M : Nat → Int32) (x1 : Int32) : (Nat → Int32) × Int32 :=
  (if x1 = (2 : Int32) then (if m_o ≤ (2 : Int32) then cf_X6_isBroken_s125_2 fu  m_o m_f m_r g_F g_R g_C m_ov g_M x1 (2 : Int32) else (if (g_C ((2 : Int32)).toNatClampNeg) = (1 : Int32) then cf_X6_isBroken_s126_2 fu  m_o m_f m_r g_F g_R g_C m_ov g_M x1 (1 : Int32) (2 : Int32) else cf_X6_isBroken_s125_2 fu  m_o m_f m_r g_F g_R g_C m_ov g_M x1 (2 : Int32))) else cf_X6_isBroken_s125_2 fu  m_o m_f m_r g_F g_R g_C m_ov g_M x1 (2 : Int32))
def vc_X6_isBroken_s88_2 (fu : Nat)  (m_o : Int32) (m_f : Int32) (m_r : Int32) (g_F : Nat → Int32) (g_R : Nat → Int32) (g_C : Nat → Int32) (m_ov : Int32) (g_M : Nat → Int32) (x1 : Int32) : Prop :=
  ((x1 = (2 : Int32) → ((m_o ≤ (2 : Int32) → vc_X6_isBroken_s125_2 fu  m_o m_f m_r g_F g_R g_C m_ov g_M x1 (2 : Int32)) ∧ (¬ m_o ≤ (2 : Int32) → (((g_C ((2 : Int32)).toNatClampNeg) = (1 : Int32) → vc_X6_isBroken_s126_2 fu  m_o m_f m_r g_F g_R g_C m_ov g_M x1 (1 : Int32) (2 : Int32)) ∧ (¬ (g_C ((2 : Int32)).toNatClampNeg) = (1 : Int32) → vc_X6_isBroken_s125_2 fu  m_o m_f m_r g_F g_R g_C m_ov g_M x1 (2 : Int32)))))) ∧ (¬ x1 = (2 : Int32) → vc_X6_isBroken_s125_2 fu  m_o m_f m_r g_F g_R g_C m_ov g_M x1 (2 : Int32)))
def cf_X6_isBroken_s126_1 (fu : Nat)  (m_o : Int32) (m_f : Int32) (m_r : Int32) (g_F : Nat → Int32) (g_R : Nat → Int32) (g_C : Nat → Int32) (m_ov : Int32) (g_M : Nat → Int32) (x1 : Int32) (y0 : Int32) (y1 : Int32) : (Nat → Int32) × Int32 :=
  cf_X6_isBroken_s88_2 fu  m_o m_f m_r g_F g_R g_C m_ov (upd g_M (y1).toNatClampNeg (vp_nar .boolean y0)) x1
def vc_X6_isBroken_s126_1 (fu : Nat)  (m_o : Int32) (m_f : Int32) (m_r : Int32) (g_F : Nat → Int32) (g_R : Nat → Int32) (g_C : Nat → Int32) (m_ov : Int32) (g_M : Nat → Int32) (x1 : Int32) (y0 : Int32) (y1 : Int32) : Prop :=
  (vp_in y1 4 ∧ vc_X6_isBroken_s88_2 fu  m_o m_f m_r g_F g_R g_C m_ov (upd g_M (y1).toNatClampNeg (vp_nar .boolean y0)) x1)
def cf_X6_isBroken_s125_1 (fu : Nat)  (m_o : Int32) (m_f : Int32) (m_r : Int32) (g_F : Nat → Int32) (g_R : Nat → Int32) (g_C : Nat → Int32) (m_ov : Int32) (g_M : Nat → Int32) (x1 : Int32) (y0 : Int32) : (Nat → Int32) × Int32 :=
  cf_X6_isBroken_s126_1 fu  m_o m_f m_r g_F g_R g_C m_ov g_M x1 (0 : Int32) y0
def vc_X6_isBroken_s125_1 (fu : Nat)  (m_o : Int32) (m_f : Int32) (m_r : Int32) (g_F : Nat → Int32) (g_R : Nat → Int32) (g_C : Nat → Int32) (m_ov : Int32) (g_M : Nat → Int32) (x1 : Int32) (y0 : Int32) : Prop :=
  vc_X6_isBroken_s126_1 fu  m_o m_f m_r g_F g_R g_C m_ov g_M x1 (0 : Int32) y0
def cf_X6_isBroken_s88_1 (fu : Nat)  (m_o : Int32) (m_f : Int32) (m_r : Int32) (g_F : Nat → Int32) (g_R : Nat → Int32) (g_C : Nat → Int32) (m_ov : Int32) (g_M : Nat → Int32) (x1 : Int32) : (Nat → Int32) × Int32 :=
  (if x1 = (2 : Int32) then (if m_o ≤ (1 : Int32) then cf_X6_isBroken_s125_1 fu  m_o m_f m_r g_F g_R g_C m_ov g_M x1 (1 : Int32) else (if (g_C ((1 : Int32)).toNatClampNeg) = (1 : Int32) then cf_X6_isBroken_s126_1 fu  m_o m_f m_r g_F g_R g_C m_ov g_M x1 (1 : Int32) (1 : Int32) else cf_X6_isBroken_s125_1 fu  m_o m_f m_r g_F g_R g_C m_ov g_M x1 (1 : Int32))) else cf_X6_isBroken_s125_1 fu  m_o m_f m_r g_F g_R g_C m_ov g_M x1 (1 : Int32))
def vc_X6_isBroken_s88_1 (fu : Nat)  (m_o : Int32) (m_f : Int32) (m_r : Int32) (g_F : Nat → Int32) (g_R : Nat → Int32) (g_C : Nat → Int32) (m_ov : Int32) (g_M : Nat → Int32) (x1 : Int32) : Prop :=
  ((x1 = (2 : Int32) → ((m_o ≤ (1 : Int32) → vc_X6_isBroken_s125_1 fu  m_o m_f m_r g_F g_R g_C m_ov g_M x1 (1 : Int32)) ∧ (¬ m_o ≤ (1 : Int32) → (((g_C ((1 : Int32)).toNatClampNeg) = (1 : Int32) → vc_X6_isBroken_s126_1 fu  m_o m_f m_r g_F g_R g_C m_ov g_M x1 (1 : Int32) (1 : Int32)) ∧ (¬ (g_C ((1 : Int32)).toNatClampNeg) = (1 : Int32) → vc_X6_isBroken_s125_1 fu  m_o m_f m_r g_F g_R g_C m_ov g_M x1 (1 : Int32)))))) ∧ (¬ x1 = (2 : Int32) → vc_X6_isBroken_s125_1 fu  m_o m_f m_r g_F g_R g_C m_ov g_M x1 (1 : Int32)))
def cf_X6_isBroken_s126_0 (fu : Nat)  (m_o : Int32) (m_f : Int32) (m_r : Int32) (g_F : Nat → Int32) (g_R : Nat → Int32) (g_C : Nat → Int32) (m_ov : Int32) (g_M : Nat → Int32) (x1 : Int32) (y0 : Int32) (y1 : Int32) : (Nat → Int32) × Int32 :=
  cf_X6_isBroken_s88_1 fu  m_o m_f m_r g_F g_R g_C m_ov (upd g_M (y1).toNatClampNeg (vp_nar .boolean y0)) x1
def vc_X6_isBroken_s126_0 (fu : Nat)  (m_o : Int32) (m_f : Int32) (m_r : Int32) (g_F : Nat → Int32) (g_R : Nat → Int32) (g_C : Nat → Int32) (m_ov : Int32) (g_M : Nat → Int32) (x1 : Int32) (y0 : Int32) (y1 : Int32) : Prop :=
  (vp_in y1 4 ∧ vc_X6_isBroken_s88_1 fu  m_o m_f m_r g_F g_R g_C m_ov (upd g_M (y1).toNatClampNeg (vp_nar .boolean y0)) x1)
def cf_X6_isBroken_s125_0 (fu : Nat)  (m_o : Int32) (m_f : Int32) (m_r : Int32) (g_F : Nat → Int32) (g_R : Nat → Int32) (g_C : Nat → Int32) (m_ov : Int32) (g_M : Nat → Int32) (x1 : Int32) (y0 : Int32) : (Nat → Int32) × Int32 :=
  cf_X6_isBroken_s126_0 fu  m_o m_f m_r g_F g_R g_C m_ov g_M x1 (0 : Int32) y0
def vc_X6_isBroken_s125_0 (fu : Nat)  (m_o : Int32) (m_f : Int32) (m_r : Int32) (g_F : Nat → Int32) (g_R : Nat → Int32) (g_C : Nat → Int32) (m_ov : Int32) (g_M : Nat → Int32) (x1 : Int32) (y0 : Int32) : Prop :=
  vc_X6_isBroken_s126_0 fu  m_o m_f m_r g_F g_R g_C m_ov g_M x1 (0 : Int32) y0
def cf_X6_isBroken_s88_0 (fu : Nat)  (m_o : Int32) (m_f : Int32) (m_r : Int32) (g_F : Nat → Int32) (g_R : Nat → Int32) (g_C : Nat → Int32) (m_ov : Int32) (g_M : Nat → Int32) (x1 : Int32) : (Nat → Int32) × Int32 :=
  (if x1 = (2 : Int32) then (if m_o ≤ (0 : Int32) then cf_X6_isBroken_s125_0 fu  m_o m_f m_r g_F g_R g_C m_ov g_M x1 (0 : Int32) else (if (g_C ((0 : Int32)).toNatClampNeg) = (1 : Int32) then cf_X6_isBroken_s126_0 fu  m_o m_f m_r g_F g_R g_C m_ov g_M x1 (1 : Int32) (0 : Int32) else cf_X6_isBroken_s125_0 fu  m_o m_f m_r g_F g_R g_C m_ov g_M x1 (0 : Int32))) else cf_X6_isBroken_s125_0 fu  m_o m_f m_r g_F g_R g_C m_ov g_M x1 (0 : Int32))
def vc_X6_isBroken_s88_0 (fu : Nat)  (m_o : Int32) (m_f : Int32) (m_r : Int32) (g_F : Nat → Int32) (g_R : Nat → Int32) (g_C : Nat → Int32) (m_ov : Int32) (g_M : Nat → Int32) (x1 : Int32) : Prop :=
  ((x1 = (2 : Int32) → ((m_o ≤ (0 : Int32) → vc_X6_isBroken_s125_0 fu  m_o m_f m_r g_F g_R g_C m_ov g_M x1 (0 : Int32)) ∧ (¬ m_o ≤ (0 : Int32) → (((g_C ((0 : Int32)).toNatClampNeg) = (1 : Int32) → vc_X6_isBroken_s126_0 fu  m_o m_f m_r g_F g_R g_C m_ov g_M x1 (1 : Int32) (0 : Int32)) ∧ (¬ (g_C ((0 : Int32)).toNatClampNeg) = (1 : Int32) → vc_X6_isBroken_s125_0 fu  m_o m_f m_r g_F g_R g_C m_ov g_M x1 (0 : Int32)))))) ∧ (¬ x1 = (2 : Int32) → vc_X6_isBroken_s125_0 fu  m_o m_f m_r g_F g_R g_C m_ov g_M x1 (0 : Int32)))
def cf_X6_isBroken (fu : Nat) (m_o : Int32) (m_f : Int32) (m_r : Int32) (g_F : Nat → Int32) (g_R : Nat → Int32) (g_C : Nat → Int32) (m_ov : Int32) (g_M : Nat → Int32) (a0 : Int32) : (Nat → Int32) × Int32 :=
  (if a0 = 0 then cf_X6_isBroken_s9 fu  m_o m_f m_r g_F g_R g_C m_ov g_M a0 else (if a0 = (3 : Int32) then cf_X6_isBroken_s9 fu  m_o m_f m_r g_F g_R g_C m_ov g_M a0 else cf_X6_isBroken_s88_0 fu  m_o m_f m_r g_F g_R g_C m_ov g_M a0))
def vc_X6_isBroken (fu : Nat) (m_o : Int32) (m_f : Int32) (m_r : Int32) (g_F : Nat → Int32) (g_R : Nat → Int32) (g_C : Nat → Int32) (m_ov : Int32) (g_M : Nat → Int32) (a0 : Int32) : Prop :=
  ((a0 = 0 → vc_X6_isBroken_s9 fu  m_o m_f m_r g_F g_R g_C m_ov g_M a0) ∧ (¬ a0 = 0 → ((a0 = (3 : Int32) → vc_X6_isBroken_s9 fu  m_o m_f m_r g_F g_R g_C m_ov g_M a0) ∧ (¬ a0 = (3 : Int32) → vc_X6_isBroken_s88_0 fu  m_o m_f m_r g_F g_R g_C m_ov g_M a0))))
set_option maxHeartbeats 4000000 in
set_option maxRecDepth 100000 in
theorem c_X6_isBroken (l : Launch) (dC : Nat → ClassId) (dI : Nat → Nat → Nat) (q6 qA qB qF qR qC qL qS qO qY qH qW qM : Nat) (cyI cyJ cyZ : ClassId) (m_th : Int32) (m_o : Int32) (m_f : Int32) (m_r : Int32) (m_b : Int32) (m_a : Int32) (u_F : Nat → Int32) (u_R : Nat → Int32) (g_F : Nat → Int32) (g_R : Nat → Int32) (g_C : Nat → Int32) (g_L : Nat → Int32) (m_rl : Int32) (m_lf : Int32) (m_ov : Int32) (m_pl : Int64) (g_S : Nat → Int64) (g_O : Nat → Int32) (g_Y : Nat → Int32) (g_H : Nat → Int32) (m_st : Int32) (g_W : Nat → Int32) (m_rm : Int32) (m_fs : Int32) (g_M : Nat → Int32) (sz : Nat) (fu : Nat) (a0 : Int32) (hm_o : m_o ≤ 4) (hm_f : m_f ≤ 2) (hm_r : m_r ≤ 3) (hV : vc_X6_isBroken fu m_o m_f m_r g_F g_R g_C m_ov g_M a0) : Met l yX6_isBroken wsX6_isBroken ({ frames := 2, cells := 0, slots := 0, locals := 46 }) (mu_P [.ref q6, .int a0] sz (dC, dI) kcl (mo_W q6 qA qB qF qR qC qL qS qO qY qH qW qM cyI cyJ cyZ m_th m_o m_f m_r m_b m_a u_F u_R g_F g_R g_C g_L m_rl m_lf m_ov m_pl g_S g_O g_Y g_H m_st g_W m_rm m_fs g_M) [(cyI, .int), (cyJ, .long), (cyZ, .boolean)]) (mu_Q (some (.int ((cf_X6_isBroken fu m_o m_f m_r g_F g_R g_C m_ov g_M a0).2))) (dC, dI) kcl (mo_W q6 qA qB qF qR qC qL qS qO qY qH qW qM cyI cyJ cyZ m_th m_o m_f m_r m_b m_a u_F u_R g_F g_R g_C g_L m_rl m_lf m_ov m_pl g_S g_O g_Y g_H m_st g_W m_rm m_fs ((cf_X6_isBroken fu m_o m_f m_r g_F g_R g_C m_ov g_M a0).1)) (va_A (mo_W q6 qA qB qF qR qC qL qS qO qY qH qW qM cyI cyJ cyZ m_th m_o m_f m_r m_b m_a u_F u_R g_F g_R g_C g_L m_rl m_lf m_ov m_pl g_S g_O g_Y g_H m_st g_W m_rm m_fs g_M) sz)) 0 0 (va_A (mo_W q6 qA qB qF qR qC qL qS qO qY qH qW qM cyI cyJ cyZ m_th m_o m_f m_r m_b m_a u_F u_R g_F g_R g_C g_L m_rl m_lf m_ov m_pl g_S g_O g_Y g_H m_st g_W m_rm m_fs g_M) sz) := by
  refine Met.ofW (cc := cX6_isBroken) (maxL := 5) (ret := (some .boolean)) (by decide) rfl ?_
  intro p e s m args below meth c s₁ B hml hv
  obtain ⟨rfl, hsz, hP, hK, hD0⟩ := hv
  have hx := B.exec
  have hb := B.bytes
  have hr := B.returns
  have hts := atoms_spec (ws := wsX6_isBroken) B.pre
  have hown : s.vm.findClass RX6 = some m.cls := findClass_of_methodNamed B.named
  have hlocks := B.notSynchronized
  subst hsz
  have hD := hD0.self (sz := s.heap.size)
  generalize hAe : va_A (mo_W q6 qA qB qF qR qC qL qS qO qY qH qW qM cyI cyJ cyZ m_th m_o m_f m_r m_b m_a u_F u_R g_F g_R g_C g_L m_rl m_lf m_ov m_pl g_S g_O g_Y g_H m_st g_W m_rm m_fs g_M) s.heap.size = A at hD ⊢
  have hA : ∀ q : Nat, s.heap.size ≤ q → A q := fun q h => by rw [← hAe]; exact Or.inr h
  have hP : va_P (dC, dI) kcl (mo_W q6 qA qB qF qR qC qL qS qO qY qH qW qM cyI cyJ cyZ m_th m_o m_f m_r m_b m_a u_F u_R g_F g_R g_C g_L m_rl m_lf m_ov m_pl g_S g_O g_Y g_H m_st g_W m_rm m_fs g_M) s.heap := hP
  have h0_ : (Cond.fieldLink RX6 79 "ColourTrierModel" "isOver" "Z").before _ s = true := hts _ (by decide +kernel)
  have h1_ : ∀ w ∈ u_ws RX6 TX6 25, w ∈ wsX6_isBroken := fun w h => List.mem_cons_of_mem _ (List.mem_append_right _ h)
  have h2_ : (Cond.fieldLink RX6 13 "ColourTrierModel" "objects" "I").before _ s = true := hts _ (by decide +kernel)
  have h3_ : (Cond.fieldLink RX6 58 "ColourTrierModel" "mark" "[Z").before _ s = true := hts _ (by decide +kernel)
  have h4_ : (Cond.fieldLink RX6 35 "ColourTrierModel" "colour" "[I").before _ s = true := hts _ (by decide +kernel)
  have h5_ : (Cond.fieldLink RX6 16 "ColourTrierModel" "fields" "I").before _ s = true := hts _ (by decide +kernel)
  have h6_ : (Cond.fieldLink RX6 29 "ColourTrierModel" "field" "[I").before _ s = true := hts _ (by decide +kernel)
  generalize hR : (cf_X6_isBroken fu m_o m_f m_r g_F g_R g_C m_ov g_M a0) = R
  have Ks24_4 : ∀  (g_M : Nat → Int32) (x1 : Int32) (H : Heap) (locs : List Loc) (ls : Array Slot), va_P (dC, dI) kcl (mo_W q6 qA qB qF qR qC qL qS qO qY qH qW qM cyI cyJ cyZ m_th m_o m_f m_r m_b m_a u_F u_R g_F g_R g_C g_L m_rl m_lf m_ov m_pl g_S g_O g_Y g_H m_st g_W m_rm m_fs g_M) H → va_D A (mo_W q6 qA qB qF qR qC qL qS qO qY qH qW qM cyI cyJ cyZ m_th m_o m_f m_r m_b m_a u_F u_R g_F g_R g_C g_L m_rl m_lf m_ov m_pl g_S g_O g_Y g_H m_st g_W m_rm m_fs g_M) → va_S A s.heap H locs → lv_has ls 5 [(0, .ref q6), (1, .int x1), (2, .int (4 : Int32))] → cf_X6_isBroken_s24_4 fu  m_o m_f m_r g_F g_R g_C m_ov g_M x1 = R → W p l e (headSpec wsX6_isBroken ({ frames := 2, cells := 0, slots := 0, locals := 46 })).room s m ([.ref q6, .int a0] : List Value).toArray below meth c H locs 0 0 (MQ below (mu_Q (some (.int R.2)) (dC, dI) kcl (mo_W q6 qA qB qF qR qC qL qS qO qY qH qW qM cyI cyJ cyZ m_th m_o m_f m_r m_b m_a u_F u_R g_F g_R g_C g_L m_rl m_lf m_ov m_pl g_S g_O g_Y g_H m_st g_W m_rm m_fs R.1) A) ([.ref q6, .int a0] : List Value).toArray s 0 0 A) (F0 m 24 ls []) := by
    intro  g_M x1 H locs ls hP hD hS hl hR
    unfold cf_X6_isBroken_s24_4 at hR
    refine lv_iload_n hx hb dX6_isBroken_24 rfl (lv_at hl 2 rfl) ?_
    refine lv_aload_n hx hb dX6_isBroken_25 rfl (lv_at hl 0 rfl) ?_
    refine va_get (D := (dC, dI)) (ci := 4) (v := .int m_o) (C := RX6) (T := TX6) (N := 25) hx hb hts h1_ hown hK hP 0 rfl rfl 1 (by decide) h2_ (fun _ h9 => h9) rfl dX6_isBroken_26 ?_
    refine lv_icmp_ge (tgt := 84) hx hb dX6_isBroken_29 (by decide) (fun _ => ?_) (fun c_0 => absurd hm_o c_0)
    refine lv_iconst (v := (0 : Int32)) hx hb dX6_isBroken_84 (by decide +kernel) ?_
    rw [← hR]
    exact W.zret (ty := .boolean) (v := (0 : Int32)) hx hb hr (by decide +kernel) (fun t ht _ => ⟨rfl, by rw [ht]; exact hP, hS.F ht⟩) hS.2.2 dX6_isBroken_85
  have Ks78_3 : ∀  (g_M : Nat → Int32) (x1 : Int32) (H : Heap) (locs : List Loc) (ls : Array Slot), va_P (dC, dI) kcl (mo_W q6 qA qB qF qR qC qL qS qO qY qH qW qM cyI cyJ cyZ m_th m_o m_f m_r m_b m_a u_F u_R g_F g_R g_C g_L m_rl m_lf m_ov m_pl g_S g_O g_Y g_H m_st g_W m_rm m_fs g_M) H → va_D A (mo_W q6 qA qB qF qR qC qL qS qO qY qH qW qM cyI cyJ cyZ m_th m_o m_f m_r m_b m_a u_F u_R g_F g_R g_C g_L m_rl m_lf m_ov m_pl g_S g_O g_Y g_H m_st g_W m_rm m_fs g_M) → va_S A s.heap H locs → lv_has ls 5 [(0, .ref q6), (1, .int x1), (2, .int (3 : Int32))] → cf_X6_isBroken_s78_3 fu  m_o m_f m_r g_F g_R g_C m_ov g_M x1 = R → W p l e (headSpec wsX6_isBroken ({ frames := 2, cells := 0, slots := 0, locals := 46 })).room s m ([.ref q6, .int a0] : List Value).toArray below meth c H locs 0 0 (MQ below (mu_Q (some (.int R.2)) (dC, dI) kcl (mo_W q6 qA qB qF qR qC qL qS qO qY qH qW qM cyI cyJ cyZ m_th m_o m_f m_r m_b m_a u_F u_R g_F g_R g_C g_L m_rl m_lf m_ov m_pl g_S g_O g_Y g_H m_st g_W m_rm m_fs R.1) A) ([.ref q6, .int a0] : List Value).toArray s 0 0 A) (F0 m 78 ls []) := by
    intro  g_M x1 H locs ls hP hD hS hl hR
    unfold cf_X6_isBroken_s78_3 at hR
    refine lv_iinc (v := (4 : Int32)) (lv' := [(2, .int (4 : Int32)), (0, .ref q6), (1, .int x1)]) hx hb dX6_isBroken_78 hl (k := 2) rfl (by decide +kernel) (by decide) rfl (fun ls hl => ?_)
    refine lv_goto (tgt := 24) hx hb dX6_isBroken_81 (by decide) ?_
    exact Ks24_4  g_M x1 H locs ls hP hD hS (lv_sub hl [1, 2, 0] rfl) hR
  have Ks76 : ∀  (g_M : Nat → Int32)  (H : Heap) (locs : List Loc) (ls : Array Slot), va_P (dC, dI) kcl (mo_W q6 qA qB qF qR qC qL qS qO qY qH qW qM cyI cyJ cyZ m_th m_o m_f m_r m_b m_a u_F u_R g_F g_R g_C g_L m_rl m_lf m_ov m_pl g_S g_O g_Y g_H m_st g_W m_rm m_fs g_M) H → va_D A (mo_W q6 qA qB qF qR qC qL qS qO qY qH qW qM cyI cyJ cyZ m_th m_o m_f m_r m_b m_a u_F u_R g_F g_R g_C g_L m_rl m_lf m_ov m_pl g_S g_O g_Y g_H m_st g_W m_rm m_fs g_M) → va_S A s.heap H locs → lv_has ls 5 [] → cf_X6_isBroken_s76 fu  m_o m_f m_r g_F g_R g_C m_ov g_M  = R → W p l e (headSpec wsX6_isBroken ({ frames := 2, cells := 0, slots := 0, locals := 46 })).room s m ([.ref q6, .int a0] : List Value).toArray below meth c H locs 0 0 (MQ below (mu_Q (some (.int R.2)) (dC, dI) kcl (mo_W q6 qA qB qF qR qC qL qS qO qY qH qW qM cyI cyJ cyZ m_th m_o m_f m_r m_b m_a u_F u_R g_F g_R g_C g_L m_rl m_lf m_ov m_pl g_S g_O g_Y g_H m_st g_W m_rm m_fs R.1) A) ([.ref q6, .int a0] : List Value).toArray s 0 0 A) (F0 m 76 ls []) := by
    intro  g_M  H locs ls hP hD hS hl hR
    unfold cf_X6_isBroken_s76 at hR
    refine lv_iconst (v := (1 : Int32)) hx hb dX6_isBroken_76 (by decide +kernel) ?_
    rw [← hR]
    exact W.zret (ty := .boolean) (v := (1 : Int32)) hx hb hr (by decide +kernel) (fun t ht _ => ⟨rfl, by rw [ht]; exact hP, hS.F ht⟩) hS.2.2 dX6_isBroken_77
  have Ks24_3 : ∀  (g_M : Nat → Int32) (x1 : Int32) (H : Heap) (locs : List Loc) (ls : Array Slot), va_P (dC, dI) kcl (mo_W q6 qA qB qF qR qC qL qS qO qY qH qW qM cyI cyJ cyZ m_th m_o m_f m_r m_b m_a u_F u_R g_F g_R g_C g_L m_rl m_lf m_ov m_pl g_S g_O g_Y g_H m_st g_W m_rm m_fs g_M) H → va_D A (mo_W q6 qA qB qF qR qC qL qS qO qY qH qW qM cyI cyJ cyZ m_th m_o m_f m_r m_b m_a u_F u_R g_F g_R g_C g_L m_rl m_lf m_ov m_pl g_S g_O g_Y g_H m_st g_W m_rm m_fs g_M) → va_S A s.heap H locs → lv_has ls 5 [(0, .ref q6), (1, .int x1), (2, .int (3 : Int32))] → cf_X6_isBroken_s24_3 fu  m_o m_f m_r g_F g_R g_C m_ov g_M x1 = R → W p l e (headSpec wsX6_isBroken ({ frames := 2, cells := 0, slots := 0, locals := 46 })).room s m ([.ref q6, .int a0] : List Value).toArray below meth c H locs 0 0 (MQ below (mu_Q (some (.int R.2)) (dC, dI) kcl (mo_W q6 qA qB qF qR qC qL qS qO qY qH qW qM cyI cyJ cyZ m_th m_o m_f m_r m_b m_a u_F u_R g_F g_R g_C g_L m_rl m_lf m_ov m_pl g_S g_O g_Y g_H m_st g_W m_rm m_fs R.1) A) ([.ref q6, .int a0] : List Value).toArray s 0 0 A) (F0 m 24 ls []) := by
    intro  g_M x1 H locs ls hP hD hS hl hR
    unfold cf_X6_isBroken_s24_3 at hR
    refine lv_iload_n hx hb dX6_isBroken_24 rfl (lv_at hl 2 rfl) ?_
    refine lv_aload_n hx hb dX6_isBroken_25 rfl (lv_at hl 0 rfl) ?_
    refine va_get (D := (dC, dI)) (ci := 4) (v := .int m_o) (C := RX6) (T := TX6) (N := 25) hx hb hts h1_ hown hK hP 0 rfl rfl 1 (by decide) h2_ (fun _ h9 => h9) rfl dX6_isBroken_26 ?_
    refine lv_icmp_ge (tgt := 84) hx hb dX6_isBroken_29 (by decide) (fun c_13 => ?_) (fun c_13 => ?_)
    · rw [if_pos c_13] at hR
      refine lv_iconst (v := (0 : Int32)) hx hb dX6_isBroken_84 (by decide +kernel) ?_
      rw [← hR]
      exact W.zret (ty := .boolean) (v := (0 : Int32)) hx hb hr (by decide +kernel) (fun t ht _ => ⟨rfl, by rw [ht]; exact hP, hS.F ht⟩) hS.2.2 dX6_isBroken_85
    · rw [if_neg c_13] at hR
      refine lv_iload_n hx hb dX6_isBroken_32 rfl (lv_at hl 1 rfl) ?_
      refine lv_if_ne (tgt := 57) hx hb dX6_isBroken_33 (by decide) (fun c_14 => ?_) (fun c_14 => ?_)
      · rw [if_neg c_14] at hR
        refine lv_aload_n hx hb dX6_isBroken_57 rfl (lv_at hl 0 rfl) ?_
        refine va_get (D := (dC, dI)) (ci := 4) (v := .ref qM) (C := RX6) (T := TX6) (N := 25) hx hb hts h1_ hown hK hP 0 rfl rfl 24 (by decide) h3_ (fun _ h9 => h9) rfl dX6_isBroken_58 ?_
        refine lv_iload_n hx hb dX6_isBroken_61 rfl (lv_at hl 2 rfl) ?_
        refine va_zald hx hb hK hP 12 2 rfl rfl (by unfold vp_in; decide +kernel) dX6_isBroken_62 ?_
        refine lv_if_ne (tgt := 78) hx hb dX6_isBroken_63 (by decide) (fun c_15 => ?_) (fun c_15 => ?_)
        · rw [if_neg c_15] at hR
          exact Ks78_3  g_M x1 H locs ls hP hD hS (lv_sub hl [0, 1, 2] rfl) hR
        · rw [if_pos c_15] at hR
          refine lv_aload_n hx hb dX6_isBroken_66 rfl (lv_at hl 0 rfl) ?_
          refine va_get (D := (dC, dI)) (ci := 4) (v := .ref qC) (C := RX6) (T := TX6) (N := 25) hx hb hts h1_ hown hK hP 0 rfl rfl 10 (by decide) h4_ (fun _ h9 => h9) rfl dX6_isBroken_67 ?_
          refine lv_iload_n hx hb dX6_isBroken_70 rfl (lv_at hl 2 rfl) ?_
          refine va_iald hx hb hK hP 5 0 rfl rfl (by unfold vp_in; decide +kernel) dX6_isBroken_71 ?_
          refine lv_iconst (v := (2 : Int32)) hx hb dX6_isBroken_72 (by decide +kernel) ?_
          refine lv_icmp_ne (tgt := 78) hx hb dX6_isBroken_73 (by decide) (fun c_16 => ?_) (fun c_16 => ?_)
          · rw [if_neg c_16] at hR
            exact Ks78_3  g_M x1 H locs ls hP hD hS (lv_sub hl [0, 1, 2] rfl) hR
          · rw [if_pos c_16] at hR
            exact Ks76  g_M  H locs ls hP hD hS (lv_sub hl [] rfl) hR
      · rw [if_pos c_14] at hR
        refine lv_aload_n hx hb dX6_isBroken_36 rfl (lv_at hl 0 rfl) ?_
        refine va_get (D := (dC, dI)) (ci := 4) (v := .ref qM) (C := RX6) (T := TX6) (N := 25) hx hb hts h1_ hown hK hP 0 rfl rfl 24 (by decide) h3_ (fun _ h9 => h9) rfl dX6_isBroken_37 ?_
        refine lv_iload_n hx hb dX6_isBroken_40 rfl (lv_at hl 2 rfl) ?_
        refine va_zald hx hb hK hP 12 2 rfl rfl (by unfold vp_in; decide +kernel) dX6_isBroken_41 ?_
        refine lv_if_eq (tgt := 78) hx hb dX6_isBroken_42 (by decide) (fun c_17 => ?_) (fun c_17 => ?_)
        · rw [if_pos c_17] at hR
          exact Ks78_3  g_M x1 H locs ls hP hD hS (lv_sub hl [0, 1, 2] rfl) hR
        · rw [if_neg c_17] at hR
          refine lv_aload_n hx hb dX6_isBroken_45 rfl (lv_at hl 0 rfl) ?_
          refine va_get (D := (dC, dI)) (ci := 4) (v := .ref qC) (C := RX6) (T := TX6) (N := 25) hx hb hts h1_ hown hK hP 0 rfl rfl 10 (by decide) h4_ (fun _ h9 => h9) rfl dX6_isBroken_46 ?_
          refine lv_iload_n hx hb dX6_isBroken_49 rfl (lv_at hl 2 rfl) ?_
          refine va_iald hx hb hK hP 5 0 rfl rfl (by unfold vp_in; decide +kernel) dX6_isBroken_50 ?_
          refine lv_if_ne (tgt := 78) hx hb dX6_isBroken_51 (by decide) (fun c_18 => ?_) (fun c_18 => ?_)
          · rw [if_neg c_18] at hR
            exact Ks78_3  g_M x1 H locs ls hP hD hS (lv_sub hl [0, 1, 2] rfl) hR
          · rw [if_pos c_18] at hR
            refine lv_goto (tgt := 76) hx hb dX6_isBroken_54 (by decide) ?_
            exact Ks76  g_M  H locs ls hP hD hS (lv_sub hl [] rfl) hR
  have Ks78_2 : ∀  (g_M : Nat → Int32) (x1 : Int32) (H : Heap) (locs : List Loc) (ls : Array Slot), va_P (dC, dI) kcl (mo_W q6 qA qB qF qR qC qL qS qO qY qH qW qM cyI cyJ cyZ m_th m_o m_f m_r m_b m_a u_F u_R g_F g_R g_C g_L m_rl m_lf m_ov m_pl g_S g_O g_Y g_H m_st g_W m_rm m_fs g_M) H → va_D A (mo_W q6 qA qB qF qR qC qL qS qO qY qH qW qM cyI cyJ cyZ m_th m_o m_f m_r m_b m_a u_F u_R g_F g_R g_C g_L m_rl m_lf m_ov m_pl g_S g_O g_Y g_H m_st g_W m_rm m_fs g_M) → va_S A s.heap H locs → lv_has ls 5 [(0, .ref q6), (1, .int x1), (2, .int (2 : Int32))] → cf_X6_isBroken_s78_2 fu  m_o m_f m_r g_F g_R g_C m_ov g_M x1 = R → W p l e (headSpec wsX6_isBroken ({ frames := 2, cells := 0, slots := 0, locals := 46 })).room s m ([.ref q6, .int a0] : List Value).toArray below meth c H locs 0 0 (MQ below (mu_Q (some (.int R.2)) (dC, dI) kcl (mo_W q6 qA qB qF qR qC qL qS qO qY qH qW qM cyI cyJ cyZ m_th m_o m_f m_r m_b m_a u_F u_R g_F g_R g_C g_L m_rl m_lf m_ov m_pl g_S g_O g_Y g_H m_st g_W m_rm m_fs R.1) A) ([.ref q6, .int a0] : List Value).toArray s 0 0 A) (F0 m 78 ls []) := by
    intro  g_M x1 H locs ls hP hD hS hl hR
    unfold cf_X6_isBroken_s78_2 at hR
    refine lv_iinc (v := (3 : Int32)) (lv' := [(2, .int (3 : Int32)), (0, .ref q6), (1, .int x1)]) hx hb dX6_isBroken_78 hl (k := 2) rfl (by decide +kernel) (by decide) rfl (fun ls hl => ?_)
    refine lv_goto (tgt := 24) hx hb dX6_isBroken_81 (by decide) ?_
    exact Ks24_3  g_M x1 H locs ls hP hD hS (lv_sub hl [1, 2, 0] rfl) hR
  have Ks24_2 : ∀  (g_M : Nat → Int32) (x1 : Int32) (H : Heap) (locs : List Loc) (ls : Array Slot), va_P (dC, dI) kcl (mo_W q6 qA qB qF qR qC qL qS qO qY qH qW qM cyI cyJ cyZ m_th m_o m_f m_r m_b m_a u_F u_R g_F g_R g_C g_L m_rl m_lf m_ov m_pl g_S g_O g_Y g_H m_st g_W m_rm m_fs g_M) H → va_D A (mo_W q6 qA qB qF qR qC qL qS qO qY qH qW qM cyI cyJ cyZ m_th m_o m_f m_r m_b m_a u_F u_R g_F g_R g_C g_L m_rl m_lf m_ov m_pl g_S g_O g_Y g_H m_st g_W m_rm m_fs g_M) → va_S A s.heap H locs → lv_has ls 5 [(0, .ref q6), (1, .int x1), (2, .int (2 : Int32))] → cf_X6_isBroken_s24_2 fu  m_o m_f m_r g_F g_R g_C m_ov g_M x1 = R → W p l e (headSpec wsX6_isBroken ({ frames := 2, cells := 0, slots := 0, locals := 46 })).room s m ([.ref q6, .int a0] : List Value).toArray below meth c H locs 0 0 (MQ below (mu_Q (some (.int R.2)) (dC, dI) kcl (mo_W q6 qA qB qF qR qC qL qS qO qY qH qW qM cyI cyJ cyZ m_th m_o m_f m_r m_b m_a u_F u_R g_F g_R g_C g_L m_rl m_lf m_ov m_pl g_S g_O g_Y g_H m_st g_W m_rm m_fs R.1) A) ([.ref q6, .int a0] : List Value).toArray s 0 0 A) (F0 m 24 ls []) := by
    intro  g_M x1 H locs ls hP hD hS hl hR
    unfold cf_X6_isBroken_s24_2 at hR
    refine lv_iload_n hx hb dX6_isBroken_24 rfl (lv_at hl 2 rfl) ?_
    refine lv_aload_n hx hb dX6_isBroken_25 rfl (lv_at hl 0 rfl) ?_
    refine va_get (D := (dC, dI)) (ci := 4) (v := .int m_o) (C := RX6) (T := TX6) (N := 25) hx hb hts h1_ hown hK hP 0 rfl rfl 1 (by decide) h2_ (fun _ h9 => h9) rfl dX6_isBroken_26 ?_
    refine lv_icmp_ge (tgt := 84) hx hb dX6_isBroken_29 (by decide) (fun c_10 => ?_) (fun c_10 => ?_)
    · rw [if_pos c_10] at hR
      refine lv_iconst (v := (0 : Int32)) hx hb dX6_isBroken_84 (by decide +kernel) ?_
      rw [← hR]
      exact W.zret (ty := .boolean) (v := (0 : Int32)) hx hb hr (by decide +kernel) (fun t ht _ => ⟨rfl, by rw [ht]; exact hP, hS.F ht⟩) hS.2.2 dX6_isBroken_85
    · rw [if_neg c_10] at hR
      refine lv_iload_n hx hb dX6_isBroken_32 rfl (lv_at hl 1 rfl) ?_
      refine lv_if_ne (tgt := 57) hx hb dX6_isBroken_33 (by decide) (fun c_11 => ?_) (fun c_11 => ?_)
      · rw [if_neg c_11] at hR
        refine lv_aload_n hx hb dX6_isBroken_57 rfl (lv_at hl 0 rfl) ?_
        refine va_get (D := (dC, dI)) (ci := 4) (v := .ref qM) (C := RX6) (T := TX6) (N := 25) hx hb hts h1_ hown hK hP 0 rfl rfl 24 (by decide) h3_ (fun _ h9 => h9) rfl dX6_isBroken_58 ?_
        refine lv_iload_n hx hb dX6_isBroken_61 rfl (lv_at hl 2 rfl) ?_
        refine va_zald hx hb hK hP 12 2 rfl rfl (by unfold vp_in; decide +kernel) dX6_isBroken_62 ?_
        refine lv_if_ne (tgt := 78) hx hb dX6_isBroken_63 (by decide) (fun c_12 => ?_) (fun c_12 => ?_)
        · rw [if_neg c_12] at hR
          exact Ks78_2  g_M x1 H locs ls hP hD hS (lv_sub hl [0, 1, 2] rfl) hR
        · rw [if_pos c_12] at hR
          refine lv_aload_n hx hb dX6_isBroken_66 rfl (lv_at hl 0 rfl) ?_
          refine va_get (D := (dC, dI)) (ci := 4) (v := .ref qC) (C := RX6) (T := TX6) (N := 25) hx hb hts h1_ hown hK hP 0 rfl rfl 10 (by decide) h4_ (fun _ h9 => h9) rfl dX6_isBroken_67 ?_
          refine lv_iload_n hx hb dX6_isBroken_70 rfl (lv_at hl 2 rfl) ?_
          refine va_iald hx hb hK hP 5 0 rfl rfl (by unfold vp_in; decide +kernel) dX6_isBroken_71 ?_
          refine lv_iconst (v := (2 : Int32)) hx hb dX6_isBroken_72 (by decide +kernel) ?_
          refine lv_icmp_ne (tgt := 78) hx hb dX6_isBroken_73 (by decide) (fun c_19 => ?_) (fun c_19 => ?_)
          · rw [if_neg c_19] at hR
            exact Ks78_2  g_M x1 H locs ls hP hD hS (lv_sub hl [0, 1, 2] rfl) hR
          · rw [if_pos c_19] at hR
            exact Ks76  g_M  H locs ls hP hD hS (lv_sub hl [] rfl) hR
      · rw [if_pos c_11] at hR
        refine lv_aload_n hx hb dX6_isBroken_36 rfl (lv_at hl 0 rfl) ?_
        refine va_get (D := (dC, dI)) (ci := 4) (v := .ref qM) (C := RX6) (T := TX6) (N := 25) hx hb hts h1_ hown hK hP 0 rfl rfl 24 (by decide) h3_ (fun _ h9 => h9) rfl dX6_isBroken_37 ?_
        refine lv_iload_n hx hb dX6_isBroken_40 rfl (lv_at hl 2 rfl) ?_
        refine va_zald hx hb hK hP 12 2 rfl rfl (by unfold vp_in; decide +kernel) dX6_isBroken_41 ?_
        refine lv_if_eq (tgt := 78) hx hb dX6_isBroken_42 (by decide) (fun c_20 => ?_) (fun c_20 => ?_)
        · rw [if_pos c_20] at hR
          exact Ks78_2  g_M x1 H locs ls hP hD hS (lv_sub hl [0, 1, 2] rfl) hR
        · rw [if_neg c_20] at hR
          refine lv_aload_n hx hb dX6_isBroken_45 rfl (lv_at hl 0 rfl) ?_
          refine va_get (D := (dC, dI)) (ci := 4) (v := .ref qC) (C := RX6) (T := TX6) (N := 25) hx hb hts h1_ hown hK hP 0 rfl rfl 10 (by decide) h4_ (fun _ h9 => h9) rfl dX6_isBroken_46 ?_
          refine lv_iload_n hx hb dX6_isBroken_49 rfl (lv_at hl 2 rfl) ?_
          refine va_iald hx hb hK hP 5 0 rfl rfl (by unfold vp_in; decide +kernel) dX6_isBroken_50 ?_
          refine lv_if_ne (tgt := 78) hx hb dX6_isBroken_51 (by decide) (fun c_21 => ?_) (fun c_21 => ?_)
          · rw [if_neg c_21] at hR
            exact Ks78_2  g_M x1 H locs ls hP hD hS (lv_sub hl [0, 1, 2] rfl) hR
          · rw [if_pos c_21] at hR
            refine lv_goto (tgt := 76) hx hb dX6_isBroken_54 (by decide) ?_
            exact Ks76  g_M  H locs ls hP hD hS (lv_sub hl [] rfl) hR
  have Ks78_1 : ∀  (g_M : Nat → Int32) (x1 : Int32) (H : Heap) (locs : List Loc) (ls : Array Slot), va_P (dC, dI) kcl (mo_W q6 qA qB qF qR qC qL qS qO qY qH qW qM cyI cyJ cyZ m_th m_o m_f m_r m_b m_a u_F u_R g_F g_R g_C g_L m_rl m_lf m_ov m_pl g_S g_O g_Y g_H m_st g_W m_rm m_fs g_M) H → va_D A (mo_W q6 qA qB qF qR qC qL qS qO qY qH qW qM cyI cyJ cyZ m_th m_o m_f m_r m_b m_a u_F u_R g_F g_R g_C g_L m_rl m_lf m_ov m_pl g_S g_O g_Y g_H m_st g_W m_rm m_fs g_M) → va_S A s.heap H locs → lv_has ls 5 [(0, .ref q6), (1, .int x1), (2, .int (1 : Int32))] → cf_X6_isBroken_s78_1 fu  m_o m_f m_r g_F g_R g_C m_ov g_M x1 = R → W p l e (headSpec wsX6_isBroken ({ frames := 2, cells := 0, slots := 0, locals := 46 })).room s m ([.ref q6, .int a0] : List Value).toArray below meth c H locs 0 0 (MQ below (mu_Q (some (.int R.2)) (dC, dI) kcl (mo_W q6 qA qB qF qR qC qL qS qO qY qH qW qM cyI cyJ cyZ m_th m_o m_f m_r m_b m_a u_F u_R g_F g_R g_C g_L m_rl m_lf m_ov m_pl g_S g_O g_Y g_H m_st g_W m_rm m_fs R.1) A) ([.ref q6, .int a0] : List Value).toArray s 0 0 A) (F0 m 78 ls []) := by
    intro  g_M x1 H locs ls hP hD hS hl hR
    unfold cf_X6_isBroken_s78_1 at hR
    refine lv_iinc (v := (2 : Int32)) (lv' := [(2, .int (2 : Int32)), (0, .ref q6), (1, .int x1)]) hx hb dX6_isBroken_78 hl (k := 2) rfl (by decide +kernel) (by decide) rfl (fun ls hl => ?_)
    refine lv_goto (tgt := 24) hx hb dX6_isBroken_81 (by decide) ?_
    exact Ks24_2  g_M x1 H locs ls hP hD hS (lv_sub hl [1, 2, 0] rfl) hR
  have Ks24_1 : ∀  (g_M : Nat → Int32) (x1 : Int32) (H : Heap) (locs : List Loc) (ls : Array Slot), va_P (dC, dI) kcl (mo_W q6 qA qB qF qR qC qL qS qO qY qH qW qM cyI cyJ cyZ m_th m_o m_f m_r m_b m_a u_F u_R g_F g_R g_C g_L m_rl m_lf m_ov m_pl g_S g_O g_Y g_H m_st g_W m_rm m_fs g_M) H → va_D A (mo_W q6 qA qB qF qR qC qL qS qO qY qH qW qM cyI cyJ cyZ m_th m_o m_f m_r m_b m_a u_F u_R g_F g_R g_C g_L m_rl m_lf m_ov m_pl g_S g_O g_Y g_H m_st g_W m_rm m_fs g_M) → va_S A s.heap H locs → lv_has ls 5 [(0, .ref q6), (1, .int x1), (2, .int (1 : Int32))] → cf_X6_isBroken_s24_1 fu  m_o m_f m_r g_F g_R g_C m_ov g_M x1 = R → W p l e (headSpec wsX6_isBroken ({ frames := 2, cells := 0, slots := 0, locals := 46 })).room s m ([.ref q6, .int a0] : List Value).toArray below meth c H locs 0 0 (MQ below (mu_Q (some (.int R.2)) (dC, dI) kcl (mo_W q6 qA qB qF qR qC qL qS qO qY qH qW qM cyI cyJ cyZ m_th m_o m_f m_r m_b m_a u_F u_R g_F g_R g_C g_L m_rl m_lf m_ov m_pl g_S g_O g_Y g_H m_st g_W m_rm m_fs R.1) A) ([.ref q6, .int a0] : List Value).toArray s 0 0 A) (F0 m 24 ls []) := by
    intro  g_M x1 H locs ls hP hD hS hl hR
    unfold cf_X6_isBroken_s24_1 at hR
    refine lv_iload_n hx hb dX6_isBroken_24 rfl (lv_at hl 2 rfl) ?_
    refine lv_aload_n hx hb dX6_isBroken_25 rfl (lv_at hl 0 rfl) ?_
    refine va_get (D := (dC, dI)) (ci := 4) (v := .int m_o) (C := RX6) (T := TX6) (N := 25) hx hb hts h1_ hown hK hP 0 rfl rfl 1 (by decide) h2_ (fun _ h9 => h9) rfl dX6_isBroken_26 ?_
    refine lv_icmp_ge (tgt := 84) hx hb dX6_isBroken_29 (by decide) (fun c_7 => ?_) (fun c_7 => ?_)
    · rw [if_pos c_7] at hR
      refine lv_iconst (v := (0 : Int32)) hx hb dX6_isBroken_84 (by decide +kernel) ?_
      rw [← hR]
      exact W.zret (ty := .boolean) (v := (0 : Int32)) hx hb hr (by decide +kernel) (fun t ht _ => ⟨rfl, by rw [ht]; exact hP, hS.F ht⟩) hS.2.2 dX6_isBroken_85
    · rw [if_neg c_7] at hR
      refine lv_iload_n hx hb dX6_isBroken_32 rfl (lv_at hl 1 rfl) ?_
      refine lv_if_ne (tgt := 57) hx hb dX6_isBroken_33 (by decide) (fun c_8 => ?_) (fun c_8 => ?_)
      · rw [if_neg c_8] at hR
        refine lv_aload_n hx hb dX6_isBroken_57 rfl (lv_at hl 0 rfl) ?_
        refine va_get (D := (dC, dI)) (ci := 4) (v := .ref qM) (C := RX6) (T := TX6) (N := 25) hx hb hts h1_ hown hK hP 0 rfl rfl 24 (by decide) h3_ (fun _ h9 => h9) rfl dX6_isBroken_58 ?_
        refine lv_iload_n hx hb dX6_isBroken_61 rfl (lv_at hl 2 rfl) ?_
        refine va_zald hx hb hK hP 12 2 rfl rfl (by unfold vp_in; decide +kernel) dX6_isBroken_62 ?_
        refine lv_if_ne (tgt := 78) hx hb dX6_isBroken_63 (by decide) (fun c_9 => ?_) (fun c_9 => ?_)
        · rw [if_neg c_9] at hR
          exact Ks78_1  g_M x1 H locs ls hP hD hS (lv_sub hl [0, 1, 2] rfl) hR
        · rw [if_pos c_9] at hR
          refine lv_aload_n hx hb dX6_isBroken_66 rfl (lv_at hl 0 rfl) ?_
          refine va_get (D := (dC, dI)) (ci := 4) (v := .ref qC) (C := RX6) (T := TX6) (N := 25) hx hb hts h1_ hown hK hP 0 rfl rfl 10 (by decide) h4_ (fun _ h9 => h9) rfl dX6_isBroken_67 ?_
          refine lv_iload_n hx hb dX6_isBroken_70 rfl (lv_at hl 2 rfl) ?_
          refine va_iald hx hb hK hP 5 0 rfl rfl (by unfold vp_in; decide +kernel) dX6_isBroken_71 ?_
          refine lv_iconst (v := (2 : Int32)) hx hb dX6_isBroken_72 (by decide +kernel) ?_
          refine lv_icmp_ne (tgt := 78) hx hb dX6_isBroken_73 (by decide) (fun c_22 => ?_) (fun c_22 => ?_)
          · rw [if_neg c_22] at hR
            exact Ks78_1  g_M x1 H locs ls hP hD hS (lv_sub hl [0, 1, 2] rfl) hR
          · rw [if_pos c_22] at hR
            exact Ks76  g_M  H locs ls hP hD hS (lv_sub hl [] rfl) hR
      · rw [if_pos c_8] at hR
        refine lv_aload_n hx hb dX6_isBroken_36 rfl (lv_at hl 0 rfl) ?_
        refine va_get (D := (dC, dI)) (ci := 4) (v := .ref qM) (C := RX6) (T := TX6) (N := 25) hx hb hts h1_ hown hK hP 0 rfl rfl 24 (by decide) h3_ (fun _ h9 => h9) rfl dX6_isBroken_37 ?_
        refine lv_iload_n hx hb dX6_isBroken_40 rfl (lv_at hl 2 rfl) ?_
        refine va_zald hx hb hK hP 12 2 rfl rfl (by unfold vp_in; decide +kernel) dX6_isBroken_41 ?_
        refine lv_if_eq (tgt := 78) hx hb dX6_isBroken_42 (by decide) (fun c_23 => ?_) (fun c_23 => ?_)
        · rw [if_pos c_23] at hR
          exact Ks78_1  g_M x1 H locs ls hP hD hS (lv_sub hl [0, 1, 2] rfl) hR
        · rw [if_neg c_23] at hR
          refine lv_aload_n hx hb dX6_isBroken_45 rfl (lv_at hl 0 rfl) ?_
          refine va_get (D := (dC, dI)) (ci := 4) (v := .ref qC) (C := RX6) (T := TX6) (N := 25) hx hb hts h1_ hown hK hP 0 rfl rfl 10 (by decide) h4_ (fun _ h9 => h9) rfl dX6_isBroken_46 ?_
          refine lv_iload_n hx hb dX6_isBroken_49 rfl (lv_at hl 2 rfl) ?_
          refine va_iald hx hb hK hP 5 0 rfl rfl (by unfold vp_in; decide +kernel) dX6_isBroken_50 ?_
          refine lv_if_ne (tgt := 78) hx hb dX6_isBroken_51 (by decide) (fun c_24 => ?_) (fun c_24 => ?_)
          · rw [if_neg c_24] at hR
            exact Ks78_1  g_M x1 H locs ls hP hD hS (lv_sub hl [0, 1, 2] rfl) hR
          · rw [if_pos c_24] at hR
            refine lv_goto (tgt := 76) hx hb dX6_isBroken_54 (by decide) ?_
            exact Ks76  g_M  H locs ls hP hD hS (lv_sub hl [] rfl) hR
  have Ks78_0 : ∀  (g_M : Nat → Int32) (x1 : Int32) (H : Heap) (locs : List Loc) (ls : Array Slot), va_P (dC, dI) kcl (mo_W q6 qA qB qF qR qC qL qS qO qY qH qW qM cyI cyJ cyZ m_th m_o m_f m_r m_b m_a u_F u_R g_F g_R g_C g_L m_rl m_lf m_ov m_pl g_S g_O g_Y g_H m_st g_W m_rm m_fs g_M) H → va_D A (mo_W q6 qA qB qF qR qC qL qS qO qY qH qW qM cyI cyJ cyZ m_th m_o m_f m_r m_b m_a u_F u_R g_F g_R g_C g_L m_rl m_lf m_ov m_pl g_S g_O g_Y g_H m_st g_W m_rm m_fs g_M) → va_S A s.heap H locs → lv_has ls 5 [(0, .ref q6), (1, .int x1), (2, .int (0 : Int32))] → cf_X6_isBroken_s78_0 fu  m_o m_f m_r g_F g_R g_C m_ov g_M x1 = R → W p l e (headSpec wsX6_isBroken ({ frames := 2, cells := 0, slots := 0, locals := 46 })).room s m ([.ref q6, .int a0] : List Value).toArray below meth c H locs 0 0 (MQ below (mu_Q (some (.int R.2)) (dC, dI) kcl (mo_W q6 qA qB qF qR qC qL qS qO qY qH qW qM cyI cyJ cyZ m_th m_o m_f m_r m_b m_a u_F u_R g_F g_R g_C g_L m_rl m_lf m_ov m_pl g_S g_O g_Y g_H m_st g_W m_rm m_fs R.1) A) ([.ref q6, .int a0] : List Value).toArray s 0 0 A) (F0 m 78 ls []) := by
    intro  g_M x1 H locs ls hP hD hS hl hR
    unfold cf_X6_isBroken_s78_0 at hR
    refine lv_iinc (v := (1 : Int32)) (lv' := [(2, .int (1 : Int32)), (0, .ref q6), (1, .int x1)]) hx hb dX6_isBroken_78 hl (k := 2) rfl (by decide +kernel) (by decide) rfl (fun ls hl => ?_)
    refine lv_goto (tgt := 24) hx hb dX6_isBroken_81 (by decide) ?_
    exact Ks24_1  g_M x1 H locs ls hP hD hS (lv_sub hl [1, 2, 0] rfl) hR
  have Ks24_0 : ∀  (g_M : Nat → Int32) (x1 : Int32) (H : Heap) (locs : List Loc) (ls : Array Slot), va_P (dC, dI) kcl (mo_W q6 qA qB qF qR qC qL qS qO qY qH qW qM cyI cyJ cyZ m_th m_o m_f m_r m_b m_a u_F u_R g_F g_R g_C g_L m_rl m_lf m_ov m_pl g_S g_O g_Y g_H m_st g_W m_rm m_fs g_M) H → va_D A (mo_W q6 qA qB qF qR qC qL qS qO qY qH qW qM cyI cyJ cyZ m_th m_o m_f m_r m_b m_a u_F u_R g_F g_R g_C g_L m_rl m_lf m_ov m_pl g_S g_O g_Y g_H m_st g_W m_rm m_fs g_M) → va_S A s.heap H locs → lv_has ls 5 [(0, .ref q6), (1, .int x1), (2, .int (0 : Int32))] → cf_X6_isBroken_s24_0 fu  m_o m_f m_r g_F g_R g_C m_ov g_M x1 = R → W p l e (headSpec wsX6_isBroken ({ frames := 2, cells := 0, slots := 0, locals := 46 })).room s m ([.ref q6, .int a0] : List Value).toArray below meth c H locs 0 0 (MQ below (mu_Q (some (.int R.2)) (dC, dI) kcl (mo_W q6 qA qB qF qR qC qL qS qO qY qH qW qM cyI cyJ cyZ m_th m_o m_f m_r m_b m_a u_F u_R g_F g_R g_C g_L m_rl m_lf m_ov m_pl g_S g_O g_Y g_H m_st g_W m_rm m_fs R.1) A) ([.ref q6, .int a0] : List Value).toArray s 0 0 A) (F0 m 24 ls []) := by
    intro  g_M x1 H locs ls hP hD hS hl hR
    unfold cf_X6_isBroken_s24_0 at hR
    refine lv_iload_n hx hb dX6_isBroken_24 rfl (lv_at hl 2 rfl) ?_
    refine lv_aload_n hx hb dX6_isBroken_25 rfl (lv_at hl 0 rfl) ?_
    refine va_get (D := (dC, dI)) (ci := 4) (v := .int m_o) (C := RX6) (T := TX6) (N := 25) hx hb hts h1_ hown hK hP 0 rfl rfl 1 (by decide) h2_ (fun _ h9 => h9) rfl dX6_isBroken_26 ?_
    refine lv_icmp_ge (tgt := 84) hx hb dX6_isBroken_29 (by decide) (fun c_4 => ?_) (fun c_4 => ?_)
    · rw [if_pos c_4] at hR
      refine lv_iconst (v := (0 : Int32)) hx hb dX6_isBroken_84 (by decide +kernel) ?_
      rw [← hR]
      exact W.zret (ty := .boolean) (v := (0 : Int32)) hx hb hr (by decide +kernel) (fun t ht _ => ⟨rfl, by rw [ht]; exact hP, hS.F ht⟩) hS.2.2 dX6_isBroken_85
    · rw [if_neg c_4] at hR
      refine lv_iload_n hx hb dX6_isBroken_32 rfl (lv_at hl 1 rfl) ?_
      refine lv_if_ne (tgt := 57) hx hb dX6_isBroken_33 (by decide) (fun c_5 => ?_) (fun c_5 => ?_)
      · rw [if_neg c_5] at hR
        refine lv_aload_n hx hb dX6_isBroken_57 rfl (lv_at hl 0 rfl) ?_
        refine va_get (D := (dC, dI)) (ci := 4) (v := .ref qM) (C := RX6) (T := TX6) (N := 25) hx hb hts h1_ hown hK hP 0 rfl rfl 24 (by decide) h3_ (fun _ h9 => h9) rfl dX6_isBroken_58 ?_
        refine lv_iload_n hx hb dX6_isBroken_61 rfl (lv_at hl 2 rfl) ?_
        refine va_zald hx hb hK hP 12 2 rfl rfl (by unfold vp_in; decide +kernel) dX6_isBroken_62 ?_
        refine lv_if_ne (tgt := 78) hx hb dX6_isBroken_63 (by decide) (fun c_6 => ?_) (fun c_6 => ?_)
        · rw [if_neg c_6] at hR
          exact Ks78_0  g_M x1 H locs ls hP hD hS (lv_sub hl [0, 1, 2] rfl) hR
        · rw [if_pos c_6] at hR
          refine lv_aload_n hx hb dX6_isBroken_66 rfl (lv_at hl 0 rfl) ?_
          refine va_get (D := (dC, dI)) (ci := 4) (v := .ref qC) (C := RX6) (T := TX6) (N := 25) hx hb hts h1_ hown hK hP 0 rfl rfl 10 (by decide) h4_ (fun _ h9 => h9) rfl dX6_isBroken_67 ?_
          refine lv_iload_n hx hb dX6_isBroken_70 rfl (lv_at hl 2 rfl) ?_
          refine va_iald hx hb hK hP 5 0 rfl rfl (by unfold vp_in; decide +kernel) dX6_isBroken_71 ?_
          refine lv_iconst (v := (2 : Int32)) hx hb dX6_isBroken_72 (by decide +kernel) ?_
          refine lv_icmp_ne (tgt := 78) hx hb dX6_isBroken_73 (by decide) (fun c_25 => ?_) (fun c_25 => ?_)
          · rw [if_neg c_25] at hR
            exact Ks78_0  g_M x1 H locs ls hP hD hS (lv_sub hl [0, 1, 2] rfl) hR
          · rw [if_pos c_25] at hR
            exact Ks76  g_M  H locs ls hP hD hS (lv_sub hl [] rfl) hR
      · rw [if_pos c_5] at hR
        refine lv_aload_n hx hb dX6_isBroken_36 rfl (lv_at hl 0 rfl) ?_
        refine va_get (D := (dC, dI)) (ci := 4) (v := .ref qM) (C := RX6) (T := TX6) (N := 25) hx hb hts h1_ hown hK hP 0 rfl rfl 24 (by decide) h3_ (fun _ h9 => h9) rfl dX6_isBroken_37 ?_
        refine lv_iload_n hx hb dX6_isBroken_40 rfl (lv_at hl 2 rfl) ?_
        refine va_zald hx hb hK hP 12 2 rfl rfl (by unfold vp_in; decide +kernel) dX6_isBroken_41 ?_
        refine lv_if_eq (tgt := 78) hx hb dX6_isBroken_42 (by decide) (fun c_26 => ?_) (fun c_26 => ?_)
        · rw [if_pos c_26] at hR
          exact Ks78_0  g_M x1 H locs ls hP hD hS (lv_sub hl [0, 1, 2] rfl) hR
        · rw [if_neg c_26] at hR
          refine lv_aload_n hx hb dX6_isBroken_45 rfl (lv_at hl 0 rfl) ?_
          refine va_get (D := (dC, dI)) (ci := 4) (v := .ref qC) (C := RX6) (T := TX6) (N := 25) hx hb hts h1_ hown hK hP 0 rfl rfl 10 (by decide) h4_ (fun _ h9 => h9) rfl dX6_isBroken_46 ?_
          refine lv_iload_n hx hb dX6_isBroken_49 rfl (lv_at hl 2 rfl) ?_
          refine va_iald hx hb hK hP 5 0 rfl rfl (by unfold vp_in; decide +kernel) dX6_isBroken_50 ?_
          refine lv_if_ne (tgt := 78) hx hb dX6_isBroken_51 (by decide) (fun c_27 => ?_) (fun c_27 => ?_)
          · rw [if_neg c_27] at hR
            exact Ks78_0  g_M x1 H locs ls hP hD hS (lv_sub hl [0, 1, 2] rfl) hR
          · rw [if_pos c_27] at hR
            refine lv_goto (tgt := 76) hx hb dX6_isBroken_54 (by decide) ?_
            exact Ks76  g_M  H locs ls hP hD hS (lv_sub hl [] rfl) hR
  have Ks9 : ∀  (g_M : Nat → Int32) (x1 : Int32) (H : Heap) (locs : List Loc) (ls : Array Slot), va_P (dC, dI) kcl (mo_W q6 qA qB qF qR qC qL qS qO qY qH qW qM cyI cyJ cyZ m_th m_o m_f m_r m_b m_a u_F u_R g_F g_R g_C g_L m_rl m_lf m_ov m_pl g_S g_O g_Y g_H m_st g_W m_rm m_fs g_M) H → va_D A (mo_W q6 qA qB qF qR qC qL qS qO qY qH qW qM cyI cyJ cyZ m_th m_o m_f m_r m_b m_a u_F u_R g_F g_R g_C g_L m_rl m_lf m_ov m_pl g_S g_O g_Y g_H m_st g_W m_rm m_fs g_M) → va_S A s.heap H locs → lv_has ls 5 [(0, .ref q6), (1, .int x1)] → vc_X6_isBroken_s9 fu  m_o m_f m_r g_F g_R g_C m_ov g_M x1 → cf_X6_isBroken_s9 fu  m_o m_f m_r g_F g_R g_C m_ov g_M x1 = R → W p l e (headSpec wsX6_isBroken ({ frames := 2, cells := 0, slots := 0, locals := 46 })).room s m ([.ref q6, .int a0] : List Value).toArray below meth c H locs 0 0 (MQ below (mu_Q (some (.int R.2)) (dC, dI) kcl (mo_W q6 qA qB qF qR qC qL qS qO qY qH qW qM cyI cyJ cyZ m_th m_o m_f m_r m_b m_a u_F u_R g_F g_R g_C g_L m_rl m_lf m_ov m_pl g_S g_O g_Y g_H m_st g_W m_rm m_fs R.1) A) ([.ref q6, .int a0] : List Value).toArray s 0 0 A) (F0 m 9 ls []) := by
    intro  g_M x1 H locs ls hP hD hS hl hV hR
    unfold cf_X6_isBroken_s9 at hR
    unfold vc_X6_isBroken_s9 at hV
    refine lv_aload_n hx hb dX6_isBroken_9 rfl (lv_at hl 0 rfl) ?_
    refine va_get (D := (dC, dI)) (ci := 4) (v := .int m_ov) (C := RX6) (T := TX6) (N := 25) hx hb hts h1_ hown hK hP 0 rfl rfl 14 (by decide) h0_ (fun _ h9 => h9) rfl dX6_isBroken_10 ?_
    refine lv_if_ne (tgt := 18) hx hb dX6_isBroken_13 (by decide) (fun c_2 => ?_) (fun c_2 => ?_)
    · rw [if_neg c_2] at hR
      have hV := hV.2 c_2
      refine lv_aload_n hx hb dX6_isBroken_18 rfl (lv_at hl 0 rfl) ?_
      obtain ⟨hv3, hV⟩ := hV
      refine mu_call (ws' := (mo_W q6 qA qB qF qR qC qL qS qO qY qH qW qM cyI cyJ cyZ m_th m_o m_f m_r m_b m_a u_F u_R g_F g_R g_C g_L m_rl m_lf m_ov m_pl g_S g_O g_Y g_H m_st g_W m_rm m_fs (cf_X6_markReached fu m_o m_f m_r g_F g_R g_C g_M ))) (wr := []) (va_runV (As := []) (rest := []) ⟨hx, hb, hml, hown, hts⟩ (c_X6_markReached l dC dI q6 qA qB qF qR qC qL qS qO qY qH qW qM cyI cyJ cyZ m_th m_o m_f m_r m_b m_a u_F u_R g_F g_R g_C g_L m_rl m_lf m_ov m_pl g_S g_O g_Y g_H m_st g_W m_rm m_fs g_M H.size fu  hm_o hm_f hm_r hv3) (cwV 0 hts gX6_isBroken_X6_markReached rfl rfl rfl (by decide +kernel) ⟨Nat.le_of_ble_eq_true rfl, Nat.le_of_ble_eq_true rfl⟩) ⟨mu_blind, va_recv hK hP (ci := 4) (q0 := 0) rfl rfl, fun U hU hW => ⟨rfl, by rw [hU], by rw [hU]; exact hP, va_K.moved hW.alike (hK.sub [0, 1, 2] rfl), hD.weaken (fun _ _ _ _ => trivial)⟩⟩ rfl rfl hl.1 rfl (lv_room (Nat.le_of_ble_eq_true rfl)) dX6_isBroken_19 ⟨Nat.le_refl _, Nat.le_refl _⟩) hP hD hS hA [0, 1, 2, 3, 4, 5, 6, 7, 8, 9, 10, 11, 12] [] [0, 1, 2, 3, 4, 5, 6, 7, 8, 9, 10, 11, 12] rfl rfl (by decide) (by decide) (by decide) rfl (by decide) rfl (fun H locs hP hD hS => ?_)
      refine W.eq (g2 := F0 m 22 ls []) rfl ?_
      refine lv_iconst (v := (0 : Int32)) hx hb dX6_isBroken_22 (by decide +kernel) ?_
      refine lv_istore_n (lv' := [(2, .int (0 : Int32)), (0, .ref q6), (1, .int x1)]) hx hb dX6_isBroken_23 rfl hl (by decide) rfl (fun ls hl => ?_)
      exact Ks24_0  (cf_X6_markReached fu m_o m_f m_r g_F g_R g_C g_M ) x1 H locs ls hP hD hS (lv_sub hl [1, 2, 0] rfl) hR
    · rw [if_pos c_2] at hR
      refine lv_iconst (v := (0 : Int32)) hx hb dX6_isBroken_16 (by decide +kernel) ?_
      rw [← hR]
      exact W.zret (ty := .boolean) (v := (0 : Int32)) hx hb hr (by decide +kernel) (fun t ht _ => ⟨rfl, by rw [ht]; exact hP, hS.F ht⟩) hS.2.2 dX6_isBroken_17
  have Ks145_4 : ∀  (g_M : Nat → Int32)  (H : Heap) (locs : List Loc) (ls : Array Slot), va_P (dC, dI) kcl (mo_W q6 qA qB qF qR qC qL qS qO qY qH qW qM cyI cyJ cyZ m_th m_o m_f m_r m_b m_a u_F u_R g_F g_R g_C g_L m_rl m_lf m_ov m_pl g_S g_O g_Y g_H m_st g_W m_rm m_fs g_M) H → va_D A (mo_W q6 qA qB qF qR qC qL qS qO qY qH qW qM cyI cyJ cyZ m_th m_o m_f m_r m_b m_a u_F u_R g_F g_R g_C g_L m_rl m_lf m_ov m_pl g_S g_O g_Y g_H m_st g_W m_rm m_fs g_M) → va_S A s.heap H locs → lv_has ls 5 [(0, .ref q6), (2, .int (4 : Int32))] → cf_X6_isBroken_s145_4 fu  m_o m_f m_r g_F g_R g_C m_ov g_M  = R → W p l e (headSpec wsX6_isBroken ({ frames := 2, cells := 0, slots := 0, locals := 46 })).room s m ([.ref q6, .int a0] : List Value).toArray below meth c H locs 0 0 (MQ below (mu_Q (some (.int R.2)) (dC, dI) kcl (mo_W q6 qA qB qF qR qC qL qS qO qY qH qW qM cyI cyJ cyZ m_th m_o m_f m_r m_b m_a u_F u_R g_F g_R g_C g_L m_rl m_lf m_ov m_pl g_S g_O g_Y g_H m_st g_W m_rm m_fs R.1) A) ([.ref q6, .int a0] : List Value).toArray s 0 0 A) (F0 m 145 ls []) := by
    intro  g_M  H locs ls hP hD hS hl hR
    unfold cf_X6_isBroken_s145_4 at hR
    refine lv_iload_n hx hb dX6_isBroken_145 rfl (lv_at hl 1 rfl) ?_
    refine lv_aload_n hx hb dX6_isBroken_146 rfl (lv_at hl 0 rfl) ?_
    refine va_get (D := (dC, dI)) (ci := 4) (v := .int m_o) (C := RX6) (T := TX6) (N := 25) hx hb hts h1_ hown hK hP 0 rfl rfl 1 (by decide) h2_ (fun _ h9 => h9) rfl dX6_isBroken_147 ?_
    refine lv_icmp_ge (tgt := 227) hx hb dX6_isBroken_150 (by decide) (fun _ => ?_) (fun c_0 => absurd hm_o c_0)
    refine lv_iconst (v := (0 : Int32)) hx hb dX6_isBroken_227 (by decide +kernel) ?_
    rw [← hR]
    exact W.zret (ty := .boolean) (v := (0 : Int32)) hx hb hr (by decide +kernel) (fun t ht _ => ⟨rfl, by rw [ht]; exact hP, hS.F ht⟩) hS.2.2 dX6_isBroken_228
  have Ks221_3 : ∀  (g_M : Nat → Int32)  (H : Heap) (locs : List Loc) (ls : Array Slot), va_P (dC, dI) kcl (mo_W q6 qA qB qF qR qC qL qS qO qY qH qW qM cyI cyJ cyZ m_th m_o m_f m_r m_b m_a u_F u_R g_F g_R g_C g_L m_rl m_lf m_ov m_pl g_S g_O g_Y g_H m_st g_W m_rm m_fs g_M) H → va_D A (mo_W q6 qA qB qF qR qC qL qS qO qY qH qW qM cyI cyJ cyZ m_th m_o m_f m_r m_b m_a u_F u_R g_F g_R g_C g_L m_rl m_lf m_ov m_pl g_S g_O g_Y g_H m_st g_W m_rm m_fs g_M) → va_S A s.heap H locs → lv_has ls 5 [(0, .ref q6), (2, .int (3 : Int32))] → cf_X6_isBroken_s221_3 fu  m_o m_f m_r g_F g_R g_C m_ov g_M  = R → W p l e (headSpec wsX6_isBroken ({ frames := 2, cells := 0, slots := 0, locals := 46 })).room s m ([.ref q6, .int a0] : List Value).toArray below meth c H locs 0 0 (MQ below (mu_Q (some (.int R.2)) (dC, dI) kcl (mo_W q6 qA qB qF qR qC qL qS qO qY qH qW qM cyI cyJ cyZ m_th m_o m_f m_r m_b m_a u_F u_R g_F g_R g_C g_L m_rl m_lf m_ov m_pl g_S g_O g_Y g_H m_st g_W m_rm m_fs R.1) A) ([.ref q6, .int a0] : List Value).toArray s 0 0 A) (F0 m 221 ls []) := by
    intro  g_M  H locs ls hP hD hS hl hR
    unfold cf_X6_isBroken_s221_3 at hR
    refine lv_iinc (v := (4 : Int32)) (lv' := [(2, .int (4 : Int32)), (0, .ref q6)]) hx hb dX6_isBroken_221 hl (k := 1) rfl (by decide +kernel) (by decide) rfl (fun ls hl => ?_)
    refine lv_goto (tgt := 145) hx hb dX6_isBroken_224 (by decide) ?_
    exact Ks145_4  g_M  H locs ls hP hD hS (lv_sub hl [1, 0] rfl) hR
  have Ks168_3_2 : ∀  (g_M : Nat → Int32)  (H : Heap) (locs : List Loc) (ls : Array Slot), va_P (dC, dI) kcl (mo_W q6 qA qB qF qR qC qL qS qO qY qH qW qM cyI cyJ cyZ m_th m_o m_f m_r m_b m_a u_F u_R g_F g_R g_C g_L m_rl m_lf m_ov m_pl g_S g_O g_Y g_H m_st g_W m_rm m_fs g_M) H → va_D A (mo_W q6 qA qB qF qR qC qL qS qO qY qH qW qM cyI cyJ cyZ m_th m_o m_f m_r m_b m_a u_F u_R g_F g_R g_C g_L m_rl m_lf m_ov m_pl g_S g_O g_Y g_H m_st g_W m_rm m_fs g_M) → va_S A s.heap H locs → lv_has ls 5 [(0, .ref q6), (2, .int (3 : Int32)), (3, .int (2 : Int32))] → cf_X6_isBroken_s168_3_2 fu  m_o m_f m_r g_F g_R g_C m_ov g_M  = R → W p l e (headSpec wsX6_isBroken ({ frames := 2, cells := 0, slots := 0, locals := 46 })).room s m ([.ref q6, .int a0] : List Value).toArray below meth c H locs 0 0 (MQ below (mu_Q (some (.int R.2)) (dC, dI) kcl (mo_W q6 qA qB qF qR qC qL qS qO qY qH qW qM cyI cyJ cyZ m_th m_o m_f m_r m_b m_a u_F u_R g_F g_R g_C g_L m_rl m_lf m_ov m_pl g_S g_O g_Y g_H m_st g_W m_rm m_fs R.1) A) ([.ref q6, .int a0] : List Value).toArray s 0 0 A) (F0 m 168 ls []) := by
    intro  g_M  H locs ls hP hD hS hl hR
    unfold cf_X6_isBroken_s168_3_2 at hR
    refine lv_iload_n hx hb dX6_isBroken_168 rfl (lv_at hl 2 rfl) ?_
    refine lv_aload_n hx hb dX6_isBroken_169 rfl (lv_at hl 0 rfl) ?_
    refine va_get (D := (dC, dI)) (ci := 4) (v := .int m_f) (C := RX6) (T := TX6) (N := 25) hx hb hts h1_ hown hK hP 0 rfl rfl 2 (by decide) h5_ (fun _ h9 => h9) rfl dX6_isBroken_170 ?_
    refine lv_icmp_ge (tgt := 221) hx hb dX6_isBroken_173 (by decide) (fun _ => ?_) (fun c_0 => absurd hm_f c_0)
    exact Ks221_3  g_M  H locs ls hP hD hS (lv_sub hl [0, 1] rfl) hR
  have Ks215_3_1 : ∀  (g_M : Nat → Int32)  (H : Heap) (locs : List Loc) (ls : Array Slot), va_P (dC, dI) kcl (mo_W q6 qA qB qF qR qC qL qS qO qY qH qW qM cyI cyJ cyZ m_th m_o m_f m_r m_b m_a u_F u_R g_F g_R g_C g_L m_rl m_lf m_ov m_pl g_S g_O g_Y g_H m_st g_W m_rm m_fs g_M) H → va_D A (mo_W q6 qA qB qF qR qC qL qS qO qY qH qW qM cyI cyJ cyZ m_th m_o m_f m_r m_b m_a u_F u_R g_F g_R g_C g_L m_rl m_lf m_ov m_pl g_S g_O g_Y g_H m_st g_W m_rm m_fs g_M) → va_S A s.heap H locs → lv_has ls 5 [(0, .ref q6), (2, .int (3 : Int32)), (3, .int (1 : Int32))] → cf_X6_isBroken_s215_3_1 fu  m_o m_f m_r g_F g_R g_C m_ov g_M  = R → W p l e (headSpec wsX6_isBroken ({ frames := 2, cells := 0, slots := 0, locals := 46 })).room s m ([.ref q6, .int a0] : List Value).toArray below meth c H locs 0 0 (MQ below (mu_Q (some (.int R.2)) (dC, dI) kcl (mo_W q6 qA qB qF qR qC qL qS qO qY qH qW qM cyI cyJ cyZ m_th m_o m_f m_r m_b m_a u_F u_R g_F g_R g_C g_L m_rl m_lf m_ov m_pl g_S g_O g_Y g_H m_st g_W m_rm m_fs R.1) A) ([.ref q6, .int a0] : List Value).toArray s 0 0 A) (F0 m 215 ls []) := by
    intro  g_M  H locs ls hP hD hS hl hR
    unfold cf_X6_isBroken_s215_3_1 at hR
    refine lv_iinc (v := (2 : Int32)) (lv' := [(3, .int (2 : Int32)), (0, .ref q6), (2, .int (3 : Int32))]) hx hb dX6_isBroken_215 hl (k := 2) rfl (by decide +kernel) (by decide) rfl (fun ls hl => ?_)
    refine lv_goto (tgt := 168) hx hb dX6_isBroken_218 (by decide) ?_
    exact Ks168_3_2  g_M  H locs ls hP hD hS (lv_sub hl [1, 2, 0] rfl) hR
  have Ks168_3_1 : ∀  (g_M : Nat → Int32)  (H : Heap) (locs : List Loc) (ls : Array Slot), va_P (dC, dI) kcl (mo_W q6 qA qB qF qR qC qL qS qO qY qH qW qM cyI cyJ cyZ m_th m_o m_f m_r m_b m_a u_F u_R g_F g_R g_C g_L m_rl m_lf m_ov m_pl g_S g_O g_Y g_H m_st g_W m_rm m_fs g_M) H → va_D A (mo_W q6 qA qB qF qR qC qL qS qO qY qH qW qM cyI cyJ cyZ m_th m_o m_f m_r m_b m_a u_F u_R g_F g_R g_C g_L m_rl m_lf m_ov m_pl g_S g_O g_Y g_H m_st g_W m_rm m_fs g_M) → va_S A s.heap H locs → lv_has ls 5 [(0, .ref q6), (2, .int (3 : Int32)), (3, .int (1 : Int32))] → vc_X6_isBroken_s168_3_1 fu  m_o m_f m_r g_F g_R g_C m_ov g_M  → cf_X6_isBroken_s168_3_1 fu  m_o m_f m_r g_F g_R g_C m_ov g_M  = R → W p l e (headSpec wsX6_isBroken ({ frames := 2, cells := 0, slots := 0, locals := 46 })).room s m ([.ref q6, .int a0] : List Value).toArray below meth c H locs 0 0 (MQ below (mu_Q (some (.int R.2)) (dC, dI) kcl (mo_W q6 qA qB qF qR qC qL qS qO qY qH qW qM cyI cyJ cyZ m_th m_o m_f m_r m_b m_a u_F u_R g_F g_R g_C g_L m_rl m_lf m_ov m_pl g_S g_O g_Y g_H m_st g_W m_rm m_fs R.1) A) ([.ref q6, .int a0] : List Value).toArray s 0 0 A) (F0 m 168 ls []) := by
    intro  g_M  H locs ls hP hD hS hl hV hR
    unfold cf_X6_isBroken_s168_3_1 at hR
    unfold vc_X6_isBroken_s168_3_1 at hV
    refine lv_iload_n hx hb dX6_isBroken_168 rfl (lv_at hl 2 rfl) ?_
    refine lv_aload_n hx hb dX6_isBroken_169 rfl (lv_at hl 0 rfl) ?_
    refine va_get (D := (dC, dI)) (ci := 4) (v := .int m_f) (C := RX6) (T := TX6) (N := 25) hx hb hts h1_ hown hK hP 0 rfl rfl 2 (by decide) h5_ (fun _ h9 => h9) rfl dX6_isBroken_170 ?_
    refine lv_icmp_ge (tgt := 221) hx hb dX6_isBroken_173 (by decide) (fun c_51 => ?_) (fun c_51 => ?_)
    · rw [if_pos c_51] at hR
      exact Ks221_3  g_M  H locs ls hP hD hS (lv_sub hl [0, 1] rfl) hR
    · rw [if_neg c_51] at hR
      have hV := hV.2 c_51
      refine lv_aload_n hx hb dX6_isBroken_176 rfl (lv_at hl 0 rfl) ?_
      refine va_get (D := (dC, dI)) (ci := 4) (v := .ref qF) (C := RX6) (T := TX6) (N := 25) hx hb hts h1_ hown hK hP 0 rfl rfl 8 (by decide) h6_ (fun _ h9 => h9) rfl dX6_isBroken_177 ?_
      refine lv_iconst (v := (2 : Int32)) hx hb dX6_isBroken_180 (by decide +kernel) ?_
      refine lv_iload_n hx hb dX6_isBroken_181 rfl (lv_at hl 1 rfl) ?_
      refine lv_imul hx hb dX6_isBroken_182 ?_
      refine ek_v (P := fun z => W p l e (headSpec wsX6_isBroken ({ frames := 2, cells := 0, slots := 0, locals := 46 })).room s m ([.ref q6, .int a0] : List Value).toArray below meth c H locs 0 0 _ (F0 m 183 ls (.int z :: [.ref qF]))) (b := (6 : Int32)) (by decide +kernel) ?_
      refine lv_iload_n hx hb dX6_isBroken_183 rfl (lv_at hl 2 rfl) ?_
      refine lv_iadd hx hb dX6_isBroken_184 ?_
      refine ek_v (P := fun z => W p l e (headSpec wsX6_isBroken ({ frames := 2, cells := 0, slots := 0, locals := 46 })).room s m ([.ref q6, .int a0] : List Value).toArray below meth c H locs 0 0 _ (F0 m 185 ls (.int z :: [.ref qF]))) (b := (7 : Int32)) (by decide +kernel) ?_
      refine va_iald hx hb hK hP 3 0 rfl rfl (by unfold vp_in; decide +kernel) dX6_isBroken_185 ?_
      refine lv_istore (lv' := [(4, .int (g_F ((7 : Int32)).toNatClampNeg)), (0, .ref q6), (2, .int (3 : Int32)), (3, .int (1 : Int32))]) hx hb dX6_isBroken_186 hl (by decide) rfl (fun ls hl => ?_)
      refine lv_iload hx hb dX6_isBroken_188 (lv_at hl 0 rfl) ?_
      refine lv_if_lt (tgt := 215) hx hb dX6_isBroken_190 (by decide) (fun c_52 => ?_) (fun c_52 => ?_)
      · rw [if_pos c_52] at hR
        exact Ks215_3_1  g_M  H locs ls hP hD hS (lv_sub hl [1, 2, 3] rfl) hR
      · rw [if_neg c_52] at hR
        have hV := hV.2 c_52
        refine lv_aload_n hx hb dX6_isBroken_193 rfl (lv_at hl 1 rfl) ?_
        refine va_get (D := (dC, dI)) (ci := 4) (v := .ref qC) (C := RX6) (T := TX6) (N := 25) hx hb hts h1_ hown hK hP 0 rfl rfl 10 (by decide) h4_ (fun _ h9 => h9) rfl dX6_isBroken_194 ?_
        refine lv_iload hx hb dX6_isBroken_197 (lv_at hl 0 rfl) ?_
        obtain ⟨hi53, hV⟩ := hV
        refine va_iald hx hb hK hP 5 0 rfl rfl hi53 dX6_isBroken_199 ?_
        refine lv_if_ne (tgt := 215) hx hb dX6_isBroken_200 (by decide) (fun c_54 => ?_) (fun c_54 => ?_)
        · rw [if_neg c_54] at hR
          exact Ks215_3_1  g_M  H locs ls hP hD hS (lv_sub hl [1, 2, 3] rfl) hR
        · rw [if_pos c_54] at hR
          have hV := hV.1 c_54
          refine lv_aload_n hx hb dX6_isBroken_203 rfl (lv_at hl 1 rfl) ?_
          refine va_get (D := (dC, dI)) (ci := 4) (v := .ref qM) (C := RX6) (T := TX6) (N := 25) hx hb hts h1_ hown hK hP 0 rfl rfl 24 (by decide) h3_ (fun _ h9 => h9) rfl dX6_isBroken_204 ?_
          refine lv_iload hx hb dX6_isBroken_207 (lv_at hl 0 rfl) ?_
          obtain ⟨hi55, hV⟩ := hV
          refine va_zald hx hb hK hP 12 2 rfl rfl hi55 dX6_isBroken_209 ?_
          refine lv_if_ne (tgt := 215) hx hb dX6_isBroken_210 (by decide) (fun c_56 => ?_) (fun c_56 => ?_)
          · rw [if_neg c_56] at hR
            exact Ks215_3_1  g_M  H locs ls hP hD hS (lv_sub hl [1, 2, 3] rfl) hR
          · rw [if_pos c_56] at hR
            refine lv_iconst (v := (1 : Int32)) hx hb dX6_isBroken_213 (by decide +kernel) ?_
            rw [← hR]
            exact W.zret (ty := .boolean) (v := (1 : Int32)) hx hb hr (by decide +kernel) (fun t ht _ => ⟨rfl, by rw [ht]; exact hP, hS.F ht⟩) hS.2.2 dX6_isBroken_214
  have Ks215_3_0 : ∀  (g_M : Nat → Int32)  (H : Heap) (locs : List Loc) (ls : Array Slot), va_P (dC, dI) kcl (mo_W q6 qA qB qF qR qC qL qS qO qY qH qW qM cyI cyJ cyZ m_th m_o m_f m_r m_b m_a u_F u_R g_F g_R g_C g_L m_rl m_lf m_ov m_pl g_S g_O g_Y g_H m_st g_W m_rm m_fs g_M) H → va_D A (mo_W q6 qA qB qF qR qC qL qS qO qY qH qW qM cyI cyJ cyZ m_th m_o m_f m_r m_b m_a u_F u_R g_F g_R g_C g_L m_rl m_lf m_ov m_pl g_S g_O g_Y g_H m_st g_W m_rm m_fs g_M) → va_S A s.heap H locs → lv_has ls 5 [(0, .ref q6), (2, .int (3 : Int32)), (3, .int (0 : Int32))] → vc_X6_isBroken_s215_3_0 fu  m_o m_f m_r g_F g_R g_C m_ov g_M  → cf_X6_isBroken_s215_3_0 fu  m_o m_f m_r g_F g_R g_C m_ov g_M  = R → W p l e (headSpec wsX6_isBroken ({ frames := 2, cells := 0, slots := 0, locals := 46 })).room s m ([.ref q6, .int a0] : List Value).toArray below meth c H locs 0 0 (MQ below (mu_Q (some (.int R.2)) (dC, dI) kcl (mo_W q6 qA qB qF qR qC qL qS qO qY qH qW qM cyI cyJ cyZ m_th m_o m_f m_r m_b m_a u_F u_R g_F g_R g_C g_L m_rl m_lf m_ov m_pl g_S g_O g_Y g_H m_st g_W m_rm m_fs R.1) A) ([.ref q6, .int a0] : List Value).toArray s 0 0 A) (F0 m 215 ls []) := by
    intro  g_M  H locs ls hP hD hS hl hV hR
    unfold cf_X6_isBroken_s215_3_0 at hR
    unfold vc_X6_isBroken_s215_3_0 at hV
    refine lv_iinc (v := (1 : Int32)) (lv' := [(3, .int (1 : Int32)), (0, .ref q6), (2, .int (3 : Int32))]) hx hb dX6_isBroken_215 hl (k := 2) rfl (by decide +kernel) (by decide) rfl (fun ls hl => ?_)
    refine lv_goto (tgt := 168) hx hb dX6_isBroken_218 (by decide) ?_
    exact Ks168_3_1  g_M  H locs ls hP hD hS (lv_sub hl [1, 2, 0] rfl) hV hR
  have Ks168_3_0 : ∀  (g_M : Nat → Int32)  (H : Heap) (locs : List Loc) (ls : Array Slot), va_P (dC, dI) kcl (mo_W q6 qA qB qF qR qC qL qS qO qY qH qW qM cyI cyJ cyZ m_th m_o m_f m_r m_b m_a u_F u_R g_F g_R g_C g_L m_rl m_lf m_ov m_pl g_S g_O g_Y g_H m_st g_W m_rm m_fs g_M) H → va_D A (mo_W q6 qA qB qF qR qC qL qS qO qY qH qW qM cyI cyJ cyZ m_th m_o m_f m_r m_b m_a u_F u_R g_F g_R g_C g_L m_rl m_lf m_ov m_pl g_S g_O g_Y g_H m_st g_W m_rm m_fs g_M) → va_S A s.heap H locs → lv_has ls 5 [(0, .ref q6), (2, .int (3 : Int32)), (3, .int (0 : Int32))] → vc_X6_isBroken_s168_3_0 fu  m_o m_f m_r g_F g_R g_C m_ov g_M  → cf_X6_isBroken_s168_3_0 fu  m_o m_f m_r g_F g_R g_C m_ov g_M  = R → W p l e (headSpec wsX6_isBroken ({ frames := 2, cells := 0, slots := 0, locals := 46 })).room s m ([.ref q6, .int a0] : List Value).toArray below meth c H locs 0 0 (MQ below (mu_Q (some (.int R.2)) (dC, dI) kcl (mo_W q6 qA qB qF qR qC qL qS qO qY qH qW qM cyI cyJ cyZ m_th m_o m_f m_r m_b m_a u_F u_R g_F g_R g_C g_L m_rl m_lf m_ov m_pl g_S g_O g_Y g_H m_st g_W m_rm m_fs R.1) A) ([.ref q6, .int a0] : List Value).toArray s 0 0 A) (F0 m 168 ls []) := by
    intro  g_M  H locs ls hP hD hS hl hV hR
    unfold cf_X6_isBroken_s168_3_0 at hR
    unfold vc_X6_isBroken_s168_3_0 at hV
    refine lv_iload_n hx hb dX6_isBroken_168 rfl (lv_at hl 2 rfl) ?_
    refine lv_aload_n hx hb dX6_isBroken_169 rfl (lv_at hl 0 rfl) ?_
    refine va_get (D := (dC, dI)) (ci := 4) (v := .int m_f) (C := RX6) (T := TX6) (N := 25) hx hb hts h1_ hown hK hP 0 rfl rfl 2 (by decide) h5_ (fun _ h9 => h9) rfl dX6_isBroken_170 ?_
    refine lv_icmp_ge (tgt := 221) hx hb dX6_isBroken_173 (by decide) (fun c_49 => ?_) (fun c_49 => ?_)
    · rw [if_pos c_49] at hR
      exact Ks221_3  g_M  H locs ls hP hD hS (lv_sub hl [0, 1] rfl) hR
    · rw [if_neg c_49] at hR
      have hV := hV.2 c_49
      refine lv_aload_n hx hb dX6_isBroken_176 rfl (lv_at hl 0 rfl) ?_
      refine va_get (D := (dC, dI)) (ci := 4) (v := .ref qF) (C := RX6) (T := TX6) (N := 25) hx hb hts h1_ hown hK hP 0 rfl rfl 8 (by decide) h6_ (fun _ h9 => h9) rfl dX6_isBroken_177 ?_
      refine lv_iconst (v := (2 : Int32)) hx hb dX6_isBroken_180 (by decide +kernel) ?_
      refine lv_iload_n hx hb dX6_isBroken_181 rfl (lv_at hl 1 rfl) ?_
      refine lv_imul hx hb dX6_isBroken_182 ?_
      refine ek_v (P := fun z => W p l e (headSpec wsX6_isBroken ({ frames := 2, cells := 0, slots := 0, locals := 46 })).room s m ([.ref q6, .int a0] : List Value).toArray below meth c H locs 0 0 _ (F0 m 183 ls (.int z :: [.ref qF]))) (b := (6 : Int32)) (by decide +kernel) ?_
      refine lv_iload_n hx hb dX6_isBroken_183 rfl (lv_at hl 2 rfl) ?_
      refine lv_iadd hx hb dX6_isBroken_184 ?_
      refine ek_v (P := fun z => W p l e (headSpec wsX6_isBroken ({ frames := 2, cells := 0, slots := 0, locals := 46 })).room s m ([.ref q6, .int a0] : List Value).toArray below meth c H locs 0 0 _ (F0 m 185 ls (.int z :: [.ref qF]))) (b := (6 : Int32)) (by decide +kernel) ?_
      refine va_iald hx hb hK hP 3 0 rfl rfl (by unfold vp_in; decide +kernel) dX6_isBroken_185 ?_
      refine lv_istore (lv' := [(4, .int (g_F ((6 : Int32)).toNatClampNeg)), (0, .ref q6), (2, .int (3 : Int32)), (3, .int (0 : Int32))]) hx hb dX6_isBroken_186 hl (by decide) rfl (fun ls hl => ?_)
      refine lv_iload hx hb dX6_isBroken_188 (lv_at hl 0 rfl) ?_
      refine lv_if_lt (tgt := 215) hx hb dX6_isBroken_190 (by decide) (fun c_50 => ?_) (fun c_50 => ?_)
      · rw [if_pos c_50] at hR
        have hV := hV.1 c_50
        exact Ks215_3_0  g_M  H locs ls hP hD hS (lv_sub hl [1, 2, 3] rfl) hV hR
      · rw [if_neg c_50] at hR
        have hV := hV.2 c_50
        refine lv_aload_n hx hb dX6_isBroken_193 rfl (lv_at hl 1 rfl) ?_
        refine va_get (D := (dC, dI)) (ci := 4) (v := .ref qC) (C := RX6) (T := TX6) (N := 25) hx hb hts h1_ hown hK hP 0 rfl rfl 10 (by decide) h4_ (fun _ h9 => h9) rfl dX6_isBroken_194 ?_
        refine lv_iload hx hb dX6_isBroken_197 (lv_at hl 0 rfl) ?_
        obtain ⟨hi57, hV⟩ := hV
        refine va_iald hx hb hK hP 5 0 rfl rfl hi57 dX6_isBroken_199 ?_
        refine lv_if_ne (tgt := 215) hx hb dX6_isBroken_200 (by decide) (fun c_58 => ?_) (fun c_58 => ?_)
        · rw [if_neg c_58] at hR
          have hV := hV.2 c_58
          exact Ks215_3_0  g_M  H locs ls hP hD hS (lv_sub hl [1, 2, 3] rfl) hV hR
        · rw [if_pos c_58] at hR
          have hV := hV.1 c_58
          refine lv_aload_n hx hb dX6_isBroken_203 rfl (lv_at hl 1 rfl) ?_
          refine va_get (D := (dC, dI)) (ci := 4) (v := .ref qM) (C := RX6) (T := TX6) (N := 25) hx hb hts h1_ hown hK hP 0 rfl rfl 24 (by decide) h3_ (fun _ h9 => h9) rfl dX6_isBroken_204 ?_
          refine lv_iload hx hb dX6_isBroken_207 (lv_at hl 0 rfl) ?_
          obtain ⟨hi59, hV⟩ := hV
          refine va_zald hx hb hK hP 12 2 rfl rfl hi59 dX6_isBroken_209 ?_
          refine lv_if_ne (tgt := 215) hx hb dX6_isBroken_210 (by decide) (fun c_60 => ?_) (fun c_60 => ?_)
          · rw [if_neg c_60] at hR
            have hV := hV.2 c_60
            exact Ks215_3_0  g_M  H locs ls hP hD hS (lv_sub hl [1, 2, 3] rfl) hV hR
          · rw [if_pos c_60] at hR
            refine lv_iconst (v := (1 : Int32)) hx hb dX6_isBroken_213 (by decide +kernel) ?_
            rw [← hR]
            exact W.zret (ty := .boolean) (v := (1 : Int32)) hx hb hr (by decide +kernel) (fun t ht _ => ⟨rfl, by rw [ht]; exact hP, hS.F ht⟩) hS.2.2 dX6_isBroken_214
  have Ks145_3 : ∀  (g_M : Nat → Int32)  (H : Heap) (locs : List Loc) (ls : Array Slot), va_P (dC, dI) kcl (mo_W q6 qA qB qF qR qC qL qS qO qY qH qW qM cyI cyJ cyZ m_th m_o m_f m_r m_b m_a u_F u_R g_F g_R g_C g_L m_rl m_lf m_ov m_pl g_S g_O g_Y g_H m_st g_W m_rm m_fs g_M) H → va_D A (mo_W q6 qA qB qF qR qC qL qS qO qY qH qW qM cyI cyJ cyZ m_th m_o m_f m_r m_b m_a u_F u_R g_F g_R g_C g_L m_rl m_lf m_ov m_pl g_S g_O g_Y g_H m_st g_W m_rm m_fs g_M) → va_S A s.heap H locs → lv_has ls 5 [(0, .ref q6), (2, .int (3 : Int32))] → vc_X6_isBroken_s145_3 fu  m_o m_f m_r g_F g_R g_C m_ov g_M  → cf_X6_isBroken_s145_3 fu  m_o m_f m_r g_F g_R g_C m_ov g_M  = R → W p l e (headSpec wsX6_isBroken ({ frames := 2, cells := 0, slots := 0, locals := 46 })).room s m ([.ref q6, .int a0] : List Value).toArray below meth c H locs 0 0 (MQ below (mu_Q (some (.int R.2)) (dC, dI) kcl (mo_W q6 qA qB qF qR qC qL qS qO qY qH qW qM cyI cyJ cyZ m_th m_o m_f m_r m_b m_a u_F u_R g_F g_R g_C g_L m_rl m_lf m_ov m_pl g_S g_O g_Y g_H m_st g_W m_rm m_fs R.1) A) ([.ref q6, .int a0] : List Value).toArray s 0 0 A) (F0 m 145 ls []) := by
    intro  g_M  H locs ls hP hD hS hl hV hR
    unfold cf_X6_isBroken_s145_3 at hR
    unfold vc_X6_isBroken_s145_3 at hV
    refine lv_iload_n hx hb dX6_isBroken_145 rfl (lv_at hl 1 rfl) ?_
    refine lv_aload_n hx hb dX6_isBroken_146 rfl (lv_at hl 0 rfl) ?_
    refine va_get (D := (dC, dI)) (ci := 4) (v := .int m_o) (C := RX6) (T := TX6) (N := 25) hx hb hts h1_ hown hK hP 0 rfl rfl 1 (by decide) h2_ (fun _ h9 => h9) rfl dX6_isBroken_147 ?_
    refine lv_icmp_ge (tgt := 227) hx hb dX6_isBroken_150 (by decide) (fun c_47 => ?_) (fun c_47 => ?_)
    · rw [if_pos c_47] at hR
      refine lv_iconst (v := (0 : Int32)) hx hb dX6_isBroken_227 (by decide +kernel) ?_
      rw [← hR]
      exact W.zret (ty := .boolean) (v := (0 : Int32)) hx hb hr (by decide +kernel) (fun t ht _ => ⟨rfl, by rw [ht]; exact hP, hS.F ht⟩) hS.2.2 dX6_isBroken_228
    · rw [if_neg c_47] at hR
      have hV := hV.2 c_47
      refine lv_aload_n hx hb dX6_isBroken_153 rfl (lv_at hl 0 rfl) ?_
      refine va_get (D := (dC, dI)) (ci := 4) (v := .ref qC) (C := RX6) (T := TX6) (N := 25) hx hb hts h1_ hown hK hP 0 rfl rfl 10 (by decide) h4_ (fun _ h9 => h9) rfl dX6_isBroken_154 ?_
      refine lv_iload_n hx hb dX6_isBroken_157 rfl (lv_at hl 1 rfl) ?_
      refine va_iald hx hb hK hP 5 0 rfl rfl (by unfold vp_in; decide +kernel) dX6_isBroken_158 ?_
      refine lv_iconst (v := (2 : Int32)) hx hb dX6_isBroken_159 (by decide +kernel) ?_
      refine lv_icmp_eq (tgt := 166) hx hb dX6_isBroken_160 (by decide) (fun c_48 => ?_) (fun c_48 => ?_)
      · rw [if_pos c_48] at hR
        have hV := hV.1 c_48
        refine lv_iconst (v := (0 : Int32)) hx hb dX6_isBroken_166 (by decide +kernel) ?_
        refine lv_istore_n (lv' := [(3, .int (0 : Int32)), (0, .ref q6), (2, .int (3 : Int32))]) hx hb dX6_isBroken_167 rfl hl (by decide) rfl (fun ls hl => ?_)
        exact Ks168_3_0  g_M  H locs ls hP hD hS (lv_sub hl [1, 2, 0] rfl) hV hR
      · rw [if_neg c_48] at hR
        refine lv_goto (tgt := 221) hx hb dX6_isBroken_163 (by decide) ?_
        exact Ks221_3  g_M  H locs ls hP hD hS (lv_sub hl [0, 1] rfl) hR
  have Ks221_2 : ∀  (g_M : Nat → Int32)  (H : Heap) (locs : List Loc) (ls : Array Slot), va_P (dC, dI) kcl (mo_W q6 qA qB qF qR qC qL qS qO qY qH qW qM cyI cyJ cyZ m_th m_o m_f m_r m_b m_a u_F u_R g_F g_R g_C g_L m_rl m_lf m_ov m_pl g_S g_O g_Y g_H m_st g_W m_rm m_fs g_M) H → va_D A (mo_W q6 qA qB qF qR qC qL qS qO qY qH qW qM cyI cyJ cyZ m_th m_o m_f m_r m_b m_a u_F u_R g_F g_R g_C g_L m_rl m_lf m_ov m_pl g_S g_O g_Y g_H m_st g_W m_rm m_fs g_M) → va_S A s.heap H locs → lv_has ls 5 [(0, .ref q6), (2, .int (2 : Int32))] → vc_X6_isBroken_s221_2 fu  m_o m_f m_r g_F g_R g_C m_ov g_M  → cf_X6_isBroken_s221_2 fu  m_o m_f m_r g_F g_R g_C m_ov g_M  = R → W p l e (headSpec wsX6_isBroken ({ frames := 2, cells := 0, slots := 0, locals := 46 })).room s m ([.ref q6, .int a0] : List Value).toArray below meth c H locs 0 0 (MQ below (mu_Q (some (.int R.2)) (dC, dI) kcl (mo_W q6 qA qB qF qR qC qL qS qO qY qH qW qM cyI cyJ cyZ m_th m_o m_f m_r m_b m_a u_F u_R g_F g_R g_C g_L m_rl m_lf m_ov m_pl g_S g_O g_Y g_H m_st g_W m_rm m_fs R.1) A) ([.ref q6, .int a0] : List Value).toArray s 0 0 A) (F0 m 221 ls []) := by
    intro  g_M  H locs ls hP hD hS hl hV hR
    unfold cf_X6_isBroken_s221_2 at hR
    unfold vc_X6_isBroken_s221_2 at hV
    refine lv_iinc (v := (3 : Int32)) (lv' := [(2, .int (3 : Int32)), (0, .ref q6)]) hx hb dX6_isBroken_221 hl (k := 1) rfl (by decide +kernel) (by decide) rfl (fun ls hl => ?_)
    refine lv_goto (tgt := 145) hx hb dX6_isBroken_224 (by decide) ?_
    exact Ks145_3  g_M  H locs ls hP hD hS (lv_sub hl [1, 0] rfl) hV hR
  have Ks168_2_2 : ∀  (g_M : Nat → Int32)  (H : Heap) (locs : List Loc) (ls : Array Slot), va_P (dC, dI) kcl (mo_W q6 qA qB qF qR qC qL qS qO qY qH qW qM cyI cyJ cyZ m_th m_o m_f m_r m_b m_a u_F u_R g_F g_R g_C g_L m_rl m_lf m_ov m_pl g_S g_O g_Y g_H m_st g_W m_rm m_fs g_M) H → va_D A (mo_W q6 qA qB qF qR qC qL qS qO qY qH qW qM cyI cyJ cyZ m_th m_o m_f m_r m_b m_a u_F u_R g_F g_R g_C g_L m_rl m_lf m_ov m_pl g_S g_O g_Y g_H m_st g_W m_rm m_fs g_M) → va_S A s.heap H locs → lv_has ls 5 [(0, .ref q6), (2, .int (2 : Int32)), (3, .int (2 : Int32))] → vc_X6_isBroken_s168_2_2 fu  m_o m_f m_r g_F g_R g_C m_ov g_M  → cf_X6_isBroken_s168_2_2 fu  m_o m_f m_r g_F g_R g_C m_ov g_M  = R → W p l e (headSpec wsX6_isBroken ({ frames := 2, cells := 0, slots := 0, locals := 46 })).room s m ([.ref q6, .int a0] : List Value).toArray below meth c H locs 0 0 (MQ below (mu_Q (some (.int R.2)) (dC, dI) kcl (mo_W q6 qA qB qF qR qC qL qS qO qY qH qW qM cyI cyJ cyZ m_th m_o m_f m_r m_b m_a u_F u_R g_F g_R g_C g_L m_rl m_lf m_ov m_pl g_S g_O g_Y g_H m_st g_W m_rm m_fs R.1) A) ([.ref q6, .int a0] : List Value).toArray s 0 0 A) (F0 m 168 ls []) := by
    intro  g_M  H locs ls hP hD hS hl hV hR
    unfold cf_X6_isBroken_s168_2_2 at hR
    unfold vc_X6_isBroken_s168_2_2 at hV
    refine lv_iload_n hx hb dX6_isBroken_168 rfl (lv_at hl 2 rfl) ?_
    refine lv_aload_n hx hb dX6_isBroken_169 rfl (lv_at hl 0 rfl) ?_
    refine va_get (D := (dC, dI)) (ci := 4) (v := .int m_f) (C := RX6) (T := TX6) (N := 25) hx hb hts h1_ hown hK hP 0 rfl rfl 2 (by decide) h5_ (fun _ h9 => h9) rfl dX6_isBroken_170 ?_
    refine lv_icmp_ge (tgt := 221) hx hb dX6_isBroken_173 (by decide) (fun _ => ?_) (fun c_0 => absurd hm_f c_0)
    exact Ks221_2  g_M  H locs ls hP hD hS (lv_sub hl [0, 1] rfl) hV hR
  have Ks215_2_1 : ∀  (g_M : Nat → Int32)  (H : Heap) (locs : List Loc) (ls : Array Slot), va_P (dC, dI) kcl (mo_W q6 qA qB qF qR qC qL qS qO qY qH qW qM cyI cyJ cyZ m_th m_o m_f m_r m_b m_a u_F u_R g_F g_R g_C g_L m_rl m_lf m_ov m_pl g_S g_O g_Y g_H m_st g_W m_rm m_fs g_M) H → va_D A (mo_W q6 qA qB qF qR qC qL qS qO qY qH qW qM cyI cyJ cyZ m_th m_o m_f m_r m_b m_a u_F u_R g_F g_R g_C g_L m_rl m_lf m_ov m_pl g_S g_O g_Y g_H m_st g_W m_rm m_fs g_M) → va_S A s.heap H locs → lv_has ls 5 [(0, .ref q6), (2, .int (2 : Int32)), (3, .int (1 : Int32))] → vc_X6_isBroken_s215_2_1 fu  m_o m_f m_r g_F g_R g_C m_ov g_M  → cf_X6_isBroken_s215_2_1 fu  m_o m_f m_r g_F g_R g_C m_ov g_M  = R → W p l e (headSpec wsX6_isBroken ({ frames := 2, cells := 0, slots := 0, locals := 46 })).room s m ([.ref q6, .int a0] : List Value).toArray below meth c H locs 0 0 (MQ below (mu_Q (some (.int R.2)) (dC, dI) kcl (mo_W q6 qA qB qF qR qC qL qS qO qY qH qW qM cyI cyJ cyZ m_th m_o m_f m_r m_b m_a u_F u_R g_F g_R g_C g_L m_rl m_lf m_ov m_pl g_S g_O g_Y g_H m_st g_W m_rm m_fs R.1) A) ([.ref q6, .int a0] : List Value).toArray s 0 0 A) (F0 m 215 ls []) := by
    intro  g_M  H locs ls hP hD hS hl hV hR
    unfold cf_X6_isBroken_s215_2_1 at hR
    unfold vc_X6_isBroken_s215_2_1 at hV
    refine lv_iinc (v := (2 : Int32)) (lv' := [(3, .int (2 : Int32)), (0, .ref q6), (2, .int (2 : Int32))]) hx hb dX6_isBroken_215 hl (k := 2) rfl (by decide +kernel) (by decide) rfl (fun ls hl => ?_)
    refine lv_goto (tgt := 168) hx hb dX6_isBroken_218 (by decide) ?_
    exact Ks168_2_2  g_M  H locs ls hP hD hS (lv_sub hl [1, 2, 0] rfl) hV hR
  have Ks168_2_1 : ∀  (g_M : Nat → Int32)  (H : Heap) (locs : List Loc) (ls : Array Slot), va_P (dC, dI) kcl (mo_W q6 qA qB qF qR qC qL qS qO qY qH qW qM cyI cyJ cyZ m_th m_o m_f m_r m_b m_a u_F u_R g_F g_R g_C g_L m_rl m_lf m_ov m_pl g_S g_O g_Y g_H m_st g_W m_rm m_fs g_M) H → va_D A (mo_W q6 qA qB qF qR qC qL qS qO qY qH qW qM cyI cyJ cyZ m_th m_o m_f m_r m_b m_a u_F u_R g_F g_R g_C g_L m_rl m_lf m_ov m_pl g_S g_O g_Y g_H m_st g_W m_rm m_fs g_M) → va_S A s.heap H locs → lv_has ls 5 [(0, .ref q6), (2, .int (2 : Int32)), (3, .int (1 : Int32))] → vc_X6_isBroken_s168_2_1 fu  m_o m_f m_r g_F g_R g_C m_ov g_M  → cf_X6_isBroken_s168_2_1 fu  m_o m_f m_r g_F g_R g_C m_ov g_M  = R → W p l e (headSpec wsX6_isBroken ({ frames := 2, cells := 0, slots := 0, locals := 46 })).room s m ([.ref q6, .int a0] : List Value).toArray below meth c H locs 0 0 (MQ below (mu_Q (some (.int R.2)) (dC, dI) kcl (mo_W q6 qA qB qF qR qC qL qS qO qY qH qW qM cyI cyJ cyZ m_th m_o m_f m_r m_b m_a u_F u_R g_F g_R g_C g_L m_rl m_lf m_ov m_pl g_S g_O g_Y g_H m_st g_W m_rm m_fs R.1) A) ([.ref q6, .int a0] : List Value).toArray s 0 0 A) (F0 m 168 ls []) := by
    intro  g_M  H locs ls hP hD hS hl hV hR
    unfold cf_X6_isBroken_s168_2_1 at hR
    unfold vc_X6_isBroken_s168_2_1 at hV
    refine lv_iload_n hx hb dX6_isBroken_168 rfl (lv_at hl 2 rfl) ?_
    refine lv_aload_n hx hb dX6_isBroken_169 rfl (lv_at hl 0 rfl) ?_
    refine va_get (D := (dC, dI)) (ci := 4) (v := .int m_f) (C := RX6) (T := TX6) (N := 25) hx hb hts h1_ hown hK hP 0 rfl rfl 2 (by decide) h5_ (fun _ h9 => h9) rfl dX6_isBroken_170 ?_
    refine lv_icmp_ge (tgt := 221) hx hb dX6_isBroken_173 (by decide) (fun c_62 => ?_) (fun c_62 => ?_)
    · rw [if_pos c_62] at hR
      have hV := hV.1 c_62
      exact Ks221_2  g_M  H locs ls hP hD hS (lv_sub hl [0, 1] rfl) hV hR
    · rw [if_neg c_62] at hR
      have hV := hV.2 c_62
      refine lv_aload_n hx hb dX6_isBroken_176 rfl (lv_at hl 0 rfl) ?_
      refine va_get (D := (dC, dI)) (ci := 4) (v := .ref qF) (C := RX6) (T := TX6) (N := 25) hx hb hts h1_ hown hK hP 0 rfl rfl 8 (by decide) h6_ (fun _ h9 => h9) rfl dX6_isBroken_177 ?_
      refine lv_iconst (v := (2 : Int32)) hx hb dX6_isBroken_180 (by decide +kernel) ?_
      refine lv_iload_n hx hb dX6_isBroken_181 rfl (lv_at hl 1 rfl) ?_
      refine lv_imul hx hb dX6_isBroken_182 ?_
      refine ek_v (P := fun z => W p l e (headSpec wsX6_isBroken ({ frames := 2, cells := 0, slots := 0, locals := 46 })).room s m ([.ref q6, .int a0] : List Value).toArray below meth c H locs 0 0 _ (F0 m 183 ls (.int z :: [.ref qF]))) (b := (4 : Int32)) (by decide +kernel) ?_
      refine lv_iload_n hx hb dX6_isBroken_183 rfl (lv_at hl 2 rfl) ?_
      refine lv_iadd hx hb dX6_isBroken_184 ?_
      refine ek_v (P := fun z => W p l e (headSpec wsX6_isBroken ({ frames := 2, cells := 0, slots := 0, locals := 46 })).room s m ([.ref q6, .int a0] : List Value).toArray below meth c H locs 0 0 _ (F0 m 185 ls (.int z :: [.ref qF]))) (b := (5 : Int32)) (by decide +kernel) ?_
      refine va_iald hx hb hK hP 3 0 rfl rfl (by unfold vp_in; decide +kernel) dX6_isBroken_185 ?_
      refine lv_istore (lv' := [(4, .int (g_F ((5 : Int32)).toNatClampNeg)), (0, .ref q6), (2, .int (2 : Int32)), (3, .int (1 : Int32))]) hx hb dX6_isBroken_186 hl (by decide) rfl (fun ls hl => ?_)
      refine lv_iload hx hb dX6_isBroken_188 (lv_at hl 0 rfl) ?_
      refine lv_if_lt (tgt := 215) hx hb dX6_isBroken_190 (by decide) (fun c_63 => ?_) (fun c_63 => ?_)
      · rw [if_pos c_63] at hR
        have hV := hV.1 c_63
        exact Ks215_2_1  g_M  H locs ls hP hD hS (lv_sub hl [1, 2, 3] rfl) hV hR
      · rw [if_neg c_63] at hR
        have hV := hV.2 c_63
        refine lv_aload_n hx hb dX6_isBroken_193 rfl (lv_at hl 1 rfl) ?_
        refine va_get (D := (dC, dI)) (ci := 4) (v := .ref qC) (C := RX6) (T := TX6) (N := 25) hx hb hts h1_ hown hK hP 0 rfl rfl 10 (by decide) h4_ (fun _ h9 => h9) rfl dX6_isBroken_194 ?_
        refine lv_iload hx hb dX6_isBroken_197 (lv_at hl 0 rfl) ?_
        obtain ⟨hi64, hV⟩ := hV
        refine va_iald hx hb hK hP 5 0 rfl rfl hi64 dX6_isBroken_199 ?_
        refine lv_if_ne (tgt := 215) hx hb dX6_isBroken_200 (by decide) (fun c_65 => ?_) (fun c_65 => ?_)
        · rw [if_neg c_65] at hR
          have hV := hV.2 c_65
          exact Ks215_2_1  g_M  H locs ls hP hD hS (lv_sub hl [1, 2, 3] rfl) hV hR
        · rw [if_pos c_65] at hR
          have hV := hV.1 c_65
          refine lv_aload_n hx hb dX6_isBroken_203 rfl (lv_at hl 1 rfl) ?_
          refine va_get (D := (dC, dI)) (ci := 4) (v := .ref qM) (C := RX6) (T := TX6) (N := 25) hx hb hts h1_ hown hK hP 0 rfl rfl 24 (by decide) h3_ (fun _ h9 => h9) rfl dX6_isBroken_204 ?_
          refine lv_iload hx hb dX6_isBroken_207 (lv_at hl 0 rfl) ?_
          obtain ⟨hi66, hV⟩ := hV
          refine va_zald hx hb hK hP 12 2 rfl rfl hi66 dX6_isBroken_209 ?_
          refine lv_if_ne (tgt := 215) hx hb dX6_isBroken_210 (by decide) (fun c_67 => ?_) (fun c_67 => ?_)
          · rw [if_neg c_67] at hR
            have hV := hV.2 c_67
            exact Ks215_2_1  g_M  H locs ls hP hD hS (lv_sub hl [1, 2, 3] rfl) hV hR
          · rw [if_pos c_67] at hR
            refine lv_iconst (v := (1 : Int32)) hx hb dX6_isBroken_213 (by decide +kernel) ?_
            rw [← hR]
            exact W.zret (ty := .boolean) (v := (1 : Int32)) hx hb hr (by decide +kernel) (fun t ht _ => ⟨rfl, by rw [ht]; exact hP, hS.F ht⟩) hS.2.2 dX6_isBroken_214
  have Ks215_2_0 : ∀  (g_M : Nat → Int32)  (H : Heap) (locs : List Loc) (ls : Array Slot), va_P (dC, dI) kcl (mo_W q6 qA qB qF qR qC qL qS qO qY qH qW qM cyI cyJ cyZ m_th m_o m_f m_r m_b m_a u_F u_R g_F g_R g_C g_L m_rl m_lf m_ov m_pl g_S g_O g_Y g_H m_st g_W m_rm m_fs g_M) H → va_D A (mo_W q6 qA qB qF qR qC qL qS qO qY qH qW qM cyI cyJ cyZ m_th m_o m_f m_r m_b m_a u_F u_R g_F g_R g_C g_L m_rl m_lf m_ov m_pl g_S g_O g_Y g_H m_st g_W m_rm m_fs g_M) → va_S A s.heap H locs → lv_has ls 5 [(0, .ref q6), (2, .int (2 : Int32)), (3, .int (0 : Int32))] → vc_X6_isBroken_s215_2_0 fu  m_o m_f m_r g_F g_R g_C m_ov g_M  → cf_X6_isBroken_s215_2_0 fu  m_o m_f m_r g_F g_R g_C m_ov g_M  = R → W p l e (headSpec wsX6_isBroken ({ frames := 2, cells := 0, slots := 0, locals := 46 })).room s m ([.ref q6, .int a0] : List Value).toArray below meth c H locs 0 0 (MQ below (mu_Q (some (.int R.2)) (dC, dI) kcl (mo_W q6 qA qB qF qR qC qL qS qO qY qH qW qM cyI cyJ cyZ m_th m_o m_f m_r m_b m_a u_F u_R g_F g_R g_C g_L m_rl m_lf m_ov m_pl g_S g_O g_Y g_H m_st g_W m_rm m_fs R.1) A) ([.ref q6, .int a0] : List Value).toArray s 0 0 A) (F0 m 215 ls []) := by
    intro  g_M  H locs ls hP hD hS hl hV hR
    unfold cf_X6_isBroken_s215_2_0 at hR
    unfold vc_X6_isBroken_s215_2_0 at hV
    refine lv_iinc (v := (1 : Int32)) (lv' := [(3, .int (1 : Int32)), (0, .ref q6), (2, .int (2 : Int32))]) hx hb dX6_isBroken_215 hl (k := 2) rfl (by decide +kernel) (by decide) rfl (fun ls hl => ?_)
    refine lv_goto (tgt := 168) hx hb dX6_isBroken_218 (by decide) ?_
    exact Ks168_2_1  g_M  H locs ls hP hD hS (lv_sub hl [1, 2, 0] rfl) hV hR
  have Ks168_2_0 : ∀  (g_M : Nat → Int32)  (H : Heap) (locs : List Loc) (ls : Array Slot), va_P (dC, dI) kcl (mo_W q6 qA qB qF qR qC qL qS qO qY qH qW qM cyI cyJ cyZ m_th m_o m_f m_r m_b m_a u_F u_R g_F g_R g_C g_L m_rl m_lf m_ov m_pl g_S g_O g_Y g_H m_st g_W m_rm m_fs g_M) H → va_D A (mo_W q6 qA qB qF qR qC qL qS qO qY qH qW qM cyI cyJ cyZ m_th m_o m_f m_r m_b m_a u_F u_R g_F g_R g_C g_L m_rl m_lf m_ov m_pl g_S g_O g_Y g_H m_st g_W m_rm m_fs g_M) → va_S A s.heap H locs → lv_has ls 5 [(0, .ref q6), (2, .int (2 : Int32)), (3, .int (0 : Int32))] → vc_X6_isBroken_s168_2_0 fu  m_o m_f m_r g_F g_R g_C m_ov g_M  → cf_X6_isBroken_s168_2_0 fu  m_o m_f m_r g_F g_R g_C m_ov g_M  = R → W p l e (headSpec wsX6_isBroken ({ frames := 2, cells := 0, slots := 0, locals := 46 })).room s m ([.ref q6, .int a0] : List Value).toArray below meth c H locs 0 0 (MQ below (mu_Q (some (.int R.2)) (dC, dI) kcl (mo_W q6 qA qB qF qR qC qL qS qO qY qH qW qM cyI cyJ cyZ m_th m_o m_f m_r m_b m_a u_F u_R g_F g_R g_C g_L m_rl m_lf m_ov m_pl g_S g_O g_Y g_H m_st g_W m_rm m_fs R.1) A) ([.ref q6, .int a0] : List Value).toArray s 0 0 A) (F0 m 168 ls []) := by
    intro  g_M  H locs ls hP hD hS hl hV hR
    unfold cf_X6_isBroken_s168_2_0 at hR
    unfold vc_X6_isBroken_s168_2_0 at hV
    refine lv_iload_n hx hb dX6_isBroken_168 rfl (lv_at hl 2 rfl) ?_
    refine lv_aload_n hx hb dX6_isBroken_169 rfl (lv_at hl 0 rfl) ?_
    refine va_get (D := (dC, dI)) (ci := 4) (v := .int m_f) (C := RX6) (T := TX6) (N := 25) hx hb hts h1_ hown hK hP 0 rfl rfl 2 (by decide) h5_ (fun _ h9 => h9) rfl dX6_isBroken_170 ?_
    refine lv_icmp_ge (tgt := 221) hx hb dX6_isBroken_173 (by decide) (fun c_46 => ?_) (fun c_46 => ?_)
    · rw [if_pos c_46] at hR
      have hV := hV.1 c_46
      exact Ks221_2  g_M  H locs ls hP hD hS (lv_sub hl [0, 1] rfl) hV hR
    · rw [if_neg c_46] at hR
      have hV := hV.2 c_46
      refine lv_aload_n hx hb dX6_isBroken_176 rfl (lv_at hl 0 rfl) ?_
      refine va_get (D := (dC, dI)) (ci := 4) (v := .ref qF) (C := RX6) (T := TX6) (N := 25) hx hb hts h1_ hown hK hP 0 rfl rfl 8 (by decide) h6_ (fun _ h9 => h9) rfl dX6_isBroken_177 ?_
      refine lv_iconst (v := (2 : Int32)) hx hb dX6_isBroken_180 (by decide +kernel) ?_
      refine lv_iload_n hx hb dX6_isBroken_181 rfl (lv_at hl 1 rfl) ?_
      refine lv_imul hx hb dX6_isBroken_182 ?_
      refine ek_v (P := fun z => W p l e (headSpec wsX6_isBroken ({ frames := 2, cells := 0, slots := 0, locals := 46 })).room s m ([.ref q6, .int a0] : List Value).toArray below meth c H locs 0 0 _ (F0 m 183 ls (.int z :: [.ref qF]))) (b := (4 : Int32)) (by decide +kernel) ?_
      refine lv_iload_n hx hb dX6_isBroken_183 rfl (lv_at hl 2 rfl) ?_
      refine lv_iadd hx hb dX6_isBroken_184 ?_
      refine ek_v (P := fun z => W p l e (headSpec wsX6_isBroken ({ frames := 2, cells := 0, slots := 0, locals := 46 })).room s m ([.ref q6, .int a0] : List Value).toArray below meth c H locs 0 0 _ (F0 m 185 ls (.int z :: [.ref qF]))) (b := (4 : Int32)) (by decide +kernel) ?_
      refine va_iald hx hb hK hP 3 0 rfl rfl (by unfold vp_in; decide +kernel) dX6_isBroken_185 ?_
      refine lv_istore (lv' := [(4, .int (g_F ((4 : Int32)).toNatClampNeg)), (0, .ref q6), (2, .int (2 : Int32)), (3, .int (0 : Int32))]) hx hb dX6_isBroken_186 hl (by decide) rfl (fun ls hl => ?_)
      refine lv_iload hx hb dX6_isBroken_188 (lv_at hl 0 rfl) ?_
      refine lv_if_lt (tgt := 215) hx hb dX6_isBroken_190 (by decide) (fun c_61 => ?_) (fun c_61 => ?_)
      · rw [if_pos c_61] at hR
        have hV := hV.1 c_61
        exact Ks215_2_0  g_M  H locs ls hP hD hS (lv_sub hl [1, 2, 3] rfl) hV hR
      · rw [if_neg c_61] at hR
        have hV := hV.2 c_61
        refine lv_aload_n hx hb dX6_isBroken_193 rfl (lv_at hl 1 rfl) ?_
        refine va_get (D := (dC, dI)) (ci := 4) (v := .ref qC) (C := RX6) (T := TX6) (N := 25) hx hb hts h1_ hown hK hP 0 rfl rfl 10 (by decide) h4_ (fun _ h9 => h9) rfl dX6_isBroken_194 ?_
        refine lv_iload hx hb dX6_isBroken_197 (lv_at hl 0 rfl) ?_
        obtain ⟨hi68, hV⟩ := hV
        refine va_iald hx hb hK hP 5 0 rfl rfl hi68 dX6_isBroken_199 ?_
        refine lv_if_ne (tgt := 215) hx hb dX6_isBroken_200 (by decide) (fun c_69 => ?_) (fun c_69 => ?_)
        · rw [if_neg c_69] at hR
          have hV := hV.2 c_69
          exact Ks215_2_0  g_M  H locs ls hP hD hS (lv_sub hl [1, 2, 3] rfl) hV hR
        · rw [if_pos c_69] at hR
          have hV := hV.1 c_69
          refine lv_aload_n hx hb dX6_isBroken_203 rfl (lv_at hl 1 rfl) ?_
          refine va_get (D := (dC, dI)) (ci := 4) (v := .ref qM) (C := RX6) (T := TX6) (N := 25) hx hb hts h1_ hown hK hP 0 rfl rfl 24 (by decide) h3_ (fun _ h9 => h9) rfl dX6_isBroken_204 ?_
          refine lv_iload hx hb dX6_isBroken_207 (lv_at hl 0 rfl) ?_
          obtain ⟨hi70, hV⟩ := hV
          refine va_zald hx hb hK hP 12 2 rfl rfl hi70 dX6_isBroken_209 ?_
          refine lv_if_ne (tgt := 215) hx hb dX6_isBroken_210 (by decide) (fun c_71 => ?_) (fun c_71 => ?_)
          · rw [if_neg c_71] at hR
            have hV := hV.2 c_71
            exact Ks215_2_0  g_M  H locs ls hP hD hS (lv_sub hl [1, 2, 3] rfl) hV hR
          · rw [if_pos c_71] at hR
            refine lv_iconst (v := (1 : Int32)) hx hb dX6_isBroken_213 (by decide +kernel) ?_
            rw [← hR]
            exact W.zret (ty := .boolean) (v := (1 : Int32)) hx hb hr (by decide +kernel) (fun t ht _ => ⟨rfl, by rw [ht]; exact hP, hS.F ht⟩) hS.2.2 dX6_isBroken_214
  have Ks145_2 : ∀  (g_M : Nat → Int32)  (H : Heap) (locs : List Loc) (ls : Array Slot), va_P (dC, dI) kcl (mo_W q6 qA qB qF qR qC qL qS qO qY qH qW qM cyI cyJ cyZ m_th m_o m_f m_r m_b m_a u_F u_R g_F g_R g_C g_L m_rl m_lf m_ov m_pl g_S g_O g_Y g_H m_st g_W m_rm m_fs g_M) H → va_D A (mo_W q6 qA qB qF qR qC qL qS qO qY qH qW qM cyI cyJ cyZ m_th m_o m_f m_r m_b m_a u_F u_R g_F g_R g_C g_L m_rl m_lf m_ov m_pl g_S g_O g_Y g_H m_st g_W m_rm m_fs g_M) → va_S A s.heap H locs → lv_has ls 5 [(0, .ref q6), (2, .int (2 : Int32))] → vc_X6_isBroken_s145_2 fu  m_o m_f m_r g_F g_R g_C m_ov g_M  → cf_X6_isBroken_s145_2 fu  m_o m_f m_r g_F g_R g_C m_ov g_M  = R → W p l e (headSpec wsX6_isBroken ({ frames := 2, cells := 0, slots := 0, locals := 46 })).room s m ([.ref q6, .int a0] : List Value).toArray below meth c H locs 0 0 (MQ below (mu_Q (some (.int R.2)) (dC, dI) kcl (mo_W q6 qA qB qF qR qC qL qS qO qY qH qW qM cyI cyJ cyZ m_th m_o m_f m_r m_b m_a u_F u_R g_F g_R g_C g_L m_rl m_lf m_ov m_pl g_S g_O g_Y g_H m_st g_W m_rm m_fs R.1) A) ([.ref q6, .int a0] : List Value).toArray s 0 0 A) (F0 m 145 ls []) := by
    intro  g_M  H locs ls hP hD hS hl hV hR
    unfold cf_X6_isBroken_s145_2 at hR
    unfold vc_X6_isBroken_s145_2 at hV
    refine lv_iload_n hx hb dX6_isBroken_145 rfl (lv_at hl 1 rfl) ?_
    refine lv_aload_n hx hb dX6_isBroken_146 rfl (lv_at hl 0 rfl) ?_
    refine va_get (D := (dC, dI)) (ci := 4) (v := .int m_o) (C := RX6) (T := TX6) (N := 25) hx hb hts h1_ hown hK hP 0 rfl rfl 1 (by decide) h2_ (fun _ h9 => h9) rfl dX6_isBroken_147 ?_
    refine lv_icmp_ge (tgt := 227) hx hb dX6_isBroken_150 (by decide) (fun c_44 => ?_) (fun c_44 => ?_)
    · rw [if_pos c_44] at hR
      refine lv_iconst (v := (0 : Int32)) hx hb dX6_isBroken_227 (by decide +kernel) ?_
      rw [← hR]
      exact W.zret (ty := .boolean) (v := (0 : Int32)) hx hb hr (by decide +kernel) (fun t ht _ => ⟨rfl, by rw [ht]; exact hP, hS.F ht⟩) hS.2.2 dX6_isBroken_228
    · rw [if_neg c_44] at hR
      have hV := hV.2 c_44
      refine lv_aload_n hx hb dX6_isBroken_153 rfl (lv_at hl 0 rfl) ?_
      refine va_get (D := (dC, dI)) (ci := 4) (v := .ref qC) (C := RX6) (T := TX6) (N := 25) hx hb hts h1_ hown hK hP 0 rfl rfl 10 (by decide) h4_ (fun _ h9 => h9) rfl dX6_isBroken_154 ?_
      refine lv_iload_n hx hb dX6_isBroken_157 rfl (lv_at hl 1 rfl) ?_
      refine va_iald hx hb hK hP 5 0 rfl rfl (by unfold vp_in; decide +kernel) dX6_isBroken_158 ?_
      refine lv_iconst (v := (2 : Int32)) hx hb dX6_isBroken_159 (by decide +kernel) ?_
      refine lv_icmp_eq (tgt := 166) hx hb dX6_isBroken_160 (by decide) (fun c_45 => ?_) (fun c_45 => ?_)
      · rw [if_pos c_45] at hR
        have hV := hV.1 c_45
        refine lv_iconst (v := (0 : Int32)) hx hb dX6_isBroken_166 (by decide +kernel) ?_
        refine lv_istore_n (lv' := [(3, .int (0 : Int32)), (0, .ref q6), (2, .int (2 : Int32))]) hx hb dX6_isBroken_167 rfl hl (by decide) rfl (fun ls hl => ?_)
        exact Ks168_2_0  g_M  H locs ls hP hD hS (lv_sub hl [1, 2, 0] rfl) hV hR
      · rw [if_neg c_45] at hR
        have hV := hV.2 c_45
        refine lv_goto (tgt := 221) hx hb dX6_isBroken_163 (by decide) ?_
        exact Ks221_2  g_M  H locs ls hP hD hS (lv_sub hl [0, 1] rfl) hV hR
  have Ks221_1 : ∀  (g_M : Nat → Int32)  (H : Heap) (locs : List Loc) (ls : Array Slot), va_P (dC, dI) kcl (mo_W q6 qA qB qF qR qC qL qS qO qY qH qW qM cyI cyJ cyZ m_th m_o m_f m_r m_b m_a u_F u_R g_F g_R g_C g_L m_rl m_lf m_ov m_pl g_S g_O g_Y g_H m_st g_W m_rm m_fs g_M) H → va_D A (mo_W q6 qA qB qF qR qC qL qS qO qY qH qW qM cyI cyJ cyZ m_th m_o m_f m_r m_b m_a u_F u_R g_F g_R g_C g_L m_rl m_lf m_ov m_pl g_S g_O g_Y g_H m_st g_W m_rm m_fs g_M) → va_S A s.heap H locs → lv_has ls 5 [(0, .ref q6), (2, .int (1 : Int32))] → vc_X6_isBroken_s221_1 fu  m_o m_f m_r g_F g_R g_C m_ov g_M  → cf_X6_isBroken_s221_1 fu  m_o m_f m_r g_F g_R g_C m_ov g_M  = R → W p l e (headSpec wsX6_isBroken ({ frames := 2, cells := 0, slots := 0, locals := 46 })).room s m ([.ref q6, .int a0] : List Value).toArray below meth c H locs 0 0 (MQ below (mu_Q (some (.int R.2)) (dC, dI) kcl (mo_W q6 qA qB qF qR qC qL qS qO qY qH qW qM cyI cyJ cyZ m_th m_o m_f m_r m_b m_a u_F u_R g_F g_R g_C g_L m_rl m_lf m_ov m_pl g_S g_O g_Y g_H m_st g_W m_rm m_fs R.1) A) ([.ref q6, .int a0] : List Value).toArray s 0 0 A) (F0 m 221 ls []) := by
    intro  g_M  H locs ls hP hD hS hl hV hR
    unfold cf_X6_isBroken_s221_1 at hR
    unfold vc_X6_isBroken_s221_1 at hV
    refine lv_iinc (v := (2 : Int32)) (lv' := [(2, .int (2 : Int32)), (0, .ref q6)]) hx hb dX6_isBroken_221 hl (k := 1) rfl (by decide +kernel) (by decide) rfl (fun ls hl => ?_)
    refine lv_goto (tgt := 145) hx hb dX6_isBroken_224 (by decide) ?_
    exact Ks145_2  g_M  H locs ls hP hD hS (lv_sub hl [1, 0] rfl) hV hR
  have Ks168_1_2 : ∀  (g_M : Nat → Int32)  (H : Heap) (locs : List Loc) (ls : Array Slot), va_P (dC, dI) kcl (mo_W q6 qA qB qF qR qC qL qS qO qY qH qW qM cyI cyJ cyZ m_th m_o m_f m_r m_b m_a u_F u_R g_F g_R g_C g_L m_rl m_lf m_ov m_pl g_S g_O g_Y g_H m_st g_W m_rm m_fs g_M) H → va_D A (mo_W q6 qA qB qF qR qC qL qS qO qY qH qW qM cyI cyJ cyZ m_th m_o m_f m_r m_b m_a u_F u_R g_F g_R g_C g_L m_rl m_lf m_ov m_pl g_S g_O g_Y g_H m_st g_W m_rm m_fs g_M) → va_S A s.heap H locs → lv_has ls 5 [(0, .ref q6), (2, .int (1 : Int32)), (3, .int (2 : Int32))] → vc_X6_isBroken_s168_1_2 fu  m_o m_f m_r g_F g_R g_C m_ov g_M  → cf_X6_isBroken_s168_1_2 fu  m_o m_f m_r g_F g_R g_C m_ov g_M  = R → W p l e (headSpec wsX6_isBroken ({ frames := 2, cells := 0, slots := 0, locals := 46 })).room s m ([.ref q6, .int a0] : List Value).toArray below meth c H locs 0 0 (MQ below (mu_Q (some (.int R.2)) (dC, dI) kcl (mo_W q6 qA qB qF qR qC qL qS qO qY qH qW qM cyI cyJ cyZ m_th m_o m_f m_r m_b m_a u_F u_R g_F g_R g_C g_L m_rl m_lf m_ov m_pl g_S g_O g_Y g_H m_st g_W m_rm m_fs R.1) A) ([.ref q6, .int a0] : List Value).toArray s 0 0 A) (F0 m 168 ls []) := by
    intro  g_M  H locs ls hP hD hS hl hV hR
    unfold cf_X6_isBroken_s168_1_2 at hR
    unfold vc_X6_isBroken_s168_1_2 at hV
    refine lv_iload_n hx hb dX6_isBroken_168 rfl (lv_at hl 2 rfl) ?_
    refine lv_aload_n hx hb dX6_isBroken_169 rfl (lv_at hl 0 rfl) ?_
    refine va_get (D := (dC, dI)) (ci := 4) (v := .int m_f) (C := RX6) (T := TX6) (N := 25) hx hb hts h1_ hown hK hP 0 rfl rfl 2 (by decide) h5_ (fun _ h9 => h9) rfl dX6_isBroken_170 ?_
    refine lv_icmp_ge (tgt := 221) hx hb dX6_isBroken_173 (by decide) (fun _ => ?_) (fun c_0 => absurd hm_f c_0)
    exact Ks221_1  g_M  H locs ls hP hD hS (lv_sub hl [0, 1] rfl) hV hR
  have Ks215_1_1 : ∀  (g_M : Nat → Int32)  (H : Heap) (locs : List Loc) (ls : Array Slot), va_P (dC, dI) kcl (mo_W q6 qA qB qF qR qC qL qS qO qY qH qW qM cyI cyJ cyZ m_th m_o m_f m_r m_b m_a u_F u_R g_F g_R g_C g_L m_rl m_lf m_ov m_pl g_S g_O g_Y g_H m_st g_W m_rm m_fs g_M) H → va_D A (mo_W q6 qA qB qF qR qC qL qS qO qY qH qW qM cyI cyJ cyZ m_th m_o m_f m_r m_b m_a u_F u_R g_F g_R g_C g_L m_rl m_lf m_ov m_pl g_S g_O g_Y g_H m_st g_W m_rm m_fs g_M) → va_S A s.heap H locs → lv_has ls 5 [(0, .ref q6), (2, .int (1 : Int32)), (3, .int (1 : Int32))] → vc_X6_isBroken_s215_1_1 fu  m_o m_f m_r g_F g_R g_C m_ov g_M  → cf_X6_isBroken_s215_1_1 fu  m_o m_f m_r g_F g_R g_C m_ov g_M  = R → W p l e (headSpec wsX6_isBroken ({ frames := 2, cells := 0, slots := 0, locals := 46 })).room s m ([.ref q6, .int a0] : List Value).toArray below meth c H locs 0 0 (MQ below (mu_Q (some (.int R.2)) (dC, dI) kcl (mo_W q6 qA qB qF qR qC qL qS qO qY qH qW qM cyI cyJ cyZ m_th m_o m_f m_r m_b m_a u_F u_R g_F g_R g_C g_L m_rl m_lf m_ov m_pl g_S g_O g_Y g_H m_st g_W m_rm m_fs R.1) A) ([.ref q6, .int a0] : List Value).toArray s 0 0 A) (F0 m 215 ls []) := by
    intro  g_M  H locs ls hP hD hS hl hV hR
    unfold cf_X6_isBroken_s215_1_1 at hR
    unfold vc_X6_isBroken_s215_1_1 at hV
    refine lv_iinc (v := (2 : Int32)) (lv' := [(3, .int (2 : Int32)), (0, .ref q6), (2, .int (1 : Int32))]) hx hb dX6_isBroken_215 hl (k := 2) rfl (by decide +kernel) (by decide) rfl (fun ls hl => ?_)
    refine lv_goto (tgt := 168) hx hb dX6_isBroken_218 (by decide) ?_
    exact Ks168_1_2  g_M  H locs ls hP hD hS (lv_sub hl [1, 2, 0] rfl) hV hR
  have Ks168_1_1 : ∀  (g_M : Nat → Int32)  (H : Heap) (locs : List Loc) (ls : Array Slot), va_P (dC, dI) kcl (mo_W q6 qA qB qF qR qC qL qS qO qY qH qW qM cyI cyJ cyZ m_th m_o m_f m_r m_b m_a u_F u_R g_F g_R g_C g_L m_rl m_lf m_ov m_pl g_S g_O g_Y g_H m_st g_W m_rm m_fs g_M) H → va_D A (mo_W q6 qA qB qF qR qC qL qS qO qY qH qW qM cyI cyJ cyZ m_th m_o m_f m_r m_b m_a u_F u_R g_F g_R g_C g_L m_rl m_lf m_ov m_pl g_S g_O g_Y g_H m_st g_W m_rm m_fs g_M) → va_S A s.heap H locs → lv_has ls 5 [(0, .ref q6), (2, .int (1 : Int32)), (3, .int (1 : Int32))] → vc_X6_isBroken_s168_1_1 fu  m_o m_f m_r g_F g_R g_C m_ov g_M  → cf_X6_isBroken_s168_1_1 fu  m_o m_f m_r g_F g_R g_C m_ov g_M  = R → W p l e (headSpec wsX6_isBroken ({ frames := 2, cells := 0, slots := 0, locals := 46 })).room s m ([.ref q6, .int a0] : List Value).toArray below meth c H locs 0 0 (MQ below (mu_Q (some (.int R.2)) (dC, dI) kcl (mo_W q6 qA qB qF qR qC qL qS qO qY qH qW qM cyI cyJ cyZ m_th m_o m_f m_r m_b m_a u_F u_R g_F g_R g_C g_L m_rl m_lf m_ov m_pl g_S g_O g_Y g_H m_st g_W m_rm m_fs R.1) A) ([.ref q6, .int a0] : List Value).toArray s 0 0 A) (F0 m 168 ls []) := by
    intro  g_M  H locs ls hP hD hS hl hV hR
    unfold cf_X6_isBroken_s168_1_1 at hR
    unfold vc_X6_isBroken_s168_1_1 at hV
    refine lv_iload_n hx hb dX6_isBroken_168 rfl (lv_at hl 2 rfl) ?_
    refine lv_aload_n hx hb dX6_isBroken_169 rfl (lv_at hl 0 rfl) ?_
    refine va_get (D := (dC, dI)) (ci := 4) (v := .int m_f) (C := RX6) (T := TX6) (N := 25) hx hb hts h1_ hown hK hP 0 rfl rfl 2 (by decide) h5_ (fun _ h9 => h9) rfl dX6_isBroken_170 ?_
    refine lv_icmp_ge (tgt := 221) hx hb dX6_isBroken_173 (by decide) (fun c_73 => ?_) (fun c_73 => ?_)
    · rw [if_pos c_73] at hR
      have hV := hV.1 c_73
      exact Ks221_1  g_M  H locs ls hP hD hS (lv_sub hl [0, 1] rfl) hV hR
    · rw [if_neg c_73] at hR
      have hV := hV.2 c_73
      refine lv_aload_n hx hb dX6_isBroken_176 rfl (lv_at hl 0 rfl) ?_
      refine va_get (D := (dC, dI)) (ci := 4) (v := .ref qF) (C := RX6) (T := TX6) (N := 25) hx hb hts h1_ hown hK hP 0 rfl rfl 8 (by decide) h6_ (fun _ h9 => h9) rfl dX6_isBroken_177 ?_
      refine lv_iconst (v := (2 : Int32)) hx hb dX6_isBroken_180 (by decide +kernel) ?_
      refine lv_iload_n hx hb dX6_isBroken_181 rfl (lv_at hl 1 rfl) ?_
      refine lv_imul hx hb dX6_isBroken_182 ?_
      refine ek_v (P := fun z => W p l e (headSpec wsX6_isBroken ({ frames := 2, cells := 0, slots := 0, locals := 46 })).room s m ([.ref q6, .int a0] : List Value).toArray below meth c H locs 0 0 _ (F0 m 183 ls (.int z :: [.ref qF]))) (b := (2 : Int32)) (by decide +kernel) ?_
      refine lv_iload_n hx hb dX6_isBroken_183 rfl (lv_at hl 2 rfl) ?_
      refine lv_iadd hx hb dX6_isBroken_184 ?_
      refine ek_v (P := fun z => W p l e (headSpec wsX6_isBroken ({ frames := 2, cells := 0, slots := 0, locals := 46 })).room s m ([.ref q6, .int a0] : List Value).toArray below meth c H locs 0 0 _ (F0 m 185 ls (.int z :: [.ref qF]))) (b := (3 : Int32)) (by decide +kernel) ?_
      refine va_iald hx hb hK hP 3 0 rfl rfl (by unfold vp_in; decide +kernel) dX6_isBroken_185 ?_
      refine lv_istore (lv' := [(4, .int (g_F ((3 : Int32)).toNatClampNeg)), (0, .ref q6), (2, .int (1 : Int32)), (3, .int (1 : Int32))]) hx hb dX6_isBroken_186 hl (by decide) rfl (fun ls hl => ?_)
      refine lv_iload hx hb dX6_isBroken_188 (lv_at hl 0 rfl) ?_
      refine lv_if_lt (tgt := 215) hx hb dX6_isBroken_190 (by decide) (fun c_74 => ?_) (fun c_74 => ?_)
      · rw [if_pos c_74] at hR
        have hV := hV.1 c_74
        exact Ks215_1_1  g_M  H locs ls hP hD hS (lv_sub hl [1, 2, 3] rfl) hV hR
      · rw [if_neg c_74] at hR
        have hV := hV.2 c_74
        refine lv_aload_n hx hb dX6_isBroken_193 rfl (lv_at hl 1 rfl) ?_
        refine va_get (D := (dC, dI)) (ci := 4) (v := .ref qC) (C := RX6) (T := TX6) (N := 25) hx hb hts h1_ hown hK hP 0 rfl rfl 10 (by decide) h4_ (fun _ h9 => h9) rfl dX6_isBroken_194 ?_
        refine lv_iload hx hb dX6_isBroken_197 (lv_at hl 0 rfl) ?_
        obtain ⟨hi75, hV⟩ := hV
        refine va_iald hx hb hK hP 5 0 rfl rfl hi75 dX6_isBroken_199 ?_
        refine lv_if_ne (tgt := 215) hx hb dX6_isBroken_200 (by decide) (fun c_76 => ?_) (fun c_76 => ?_)
        · rw [if_neg c_76] at hR
          have hV := hV.2 c_76
          exact Ks215_1_1  g_M  H locs ls hP hD hS (lv_sub hl [1, 2, 3] rfl) hV hR
        · rw [if_pos c_76] at hR
          have hV := hV.1 c_76
          refine lv_aload_n hx hb dX6_isBroken_203 rfl (lv_at hl 1 rfl) ?_
          refine va_get (D := (dC, dI)) (ci := 4) (v := .ref qM) (C := RX6) (T := TX6) (N := 25) hx hb hts h1_ hown hK hP 0 rfl rfl 24 (by decide) h3_ (fun _ h9 => h9) rfl dX6_isBroken_204 ?_
          refine lv_iload hx hb dX6_isBroken_207 (lv_at hl 0 rfl) ?_
          obtain ⟨hi77, hV⟩ := hV
          refine va_zald hx hb hK hP 12 2 rfl rfl hi77 dX6_isBroken_209 ?_
          refine lv_if_ne (tgt := 215) hx hb dX6_isBroken_210 (by decide) (fun c_78 => ?_) (fun c_78 => ?_)
          · rw [if_neg c_78] at hR
            have hV := hV.2 c_78
            exact Ks215_1_1  g_M  H locs ls hP hD hS (lv_sub hl [1, 2, 3] rfl) hV hR
          · rw [if_pos c_78] at hR
            refine lv_iconst (v := (1 : Int32)) hx hb dX6_isBroken_213 (by decide +kernel) ?_
            rw [← hR]
            exact W.zret (ty := .boolean) (v := (1 : Int32)) hx hb hr (by decide +kernel) (fun t ht _ => ⟨rfl, by rw [ht]; exact hP, hS.F ht⟩) hS.2.2 dX6_isBroken_214
  have Ks215_1_0 : ∀  (g_M : Nat → Int32)  (H : Heap) (locs : List Loc) (ls : Array Slot), va_P (dC, dI) kcl (mo_W q6 qA qB qF qR qC qL qS qO qY qH qW qM cyI cyJ cyZ m_th m_o m_f m_r m_b m_a u_F u_R g_F g_R g_C g_L m_rl m_lf m_ov m_pl g_S g_O g_Y g_H m_st g_W m_rm m_fs g_M) H → va_D A (mo_W q6 qA qB qF qR qC qL qS qO qY qH qW qM cyI cyJ cyZ m_th m_o m_f m_r m_b m_a u_F u_R g_F g_R g_C g_L m_rl m_lf m_ov m_pl g_S g_O g_Y g_H m_st g_W m_rm m_fs g_M) → va_S A s.heap H locs → lv_has ls 5 [(0, .ref q6), (2, .int (1 : Int32)), (3, .int (0 : Int32))] → vc_X6_isBroken_s215_1_0 fu  m_o m_f m_r g_F g_R g_C m_ov g_M  → cf_X6_isBroken_s215_1_0 fu  m_o m_f m_r g_F g_R g_C m_ov g_M  = R → W p l e (headSpec wsX6_isBroken ({ frames := 2, cells := 0, slots := 0, locals := 46 })).room s m ([.ref q6, .int a0] : List Value).toArray below meth c H locs 0 0 (MQ below (mu_Q (some (.int R.2)) (dC, dI) kcl (mo_W q6 qA qB qF qR qC qL qS qO qY qH qW qM cyI cyJ cyZ m_th m_o m_f m_r m_b m_a u_F u_R g_F g_R g_C g_L m_rl m_lf m_ov m_pl g_S g_O g_Y g_H m_st g_W m_rm m_fs R.1) A) ([.ref q6, .int a0] : List Value).toArray s 0 0 A) (F0 m 215 ls []) := by
    intro  g_M  H locs ls hP hD hS hl hV hR
    unfold cf_X6_isBroken_s215_1_0 at hR
    unfold vc_X6_isBroken_s215_1_0 at hV
    refine lv_iinc (v := (1 : Int32)) (lv' := [(3, .int (1 : Int32)), (0, .ref q6), (2, .int (1 : Int32))]) hx hb dX6_isBroken_215 hl (k := 2) rfl (by decide +kernel) (by decide) rfl (fun ls hl => ?_)
    refine lv_goto (tgt := 168) hx hb dX6_isBroken_218 (by decide) ?_
    exact Ks168_1_1  g_M  H locs ls hP hD hS (lv_sub hl [1, 2, 0] rfl) hV hR
  have Ks168_1_0 : ∀  (g_M : Nat → Int32)  (H : Heap) (locs : List Loc) (ls : Array Slot), va_P (dC, dI) kcl (mo_W q6 qA qB qF qR qC qL qS qO qY qH qW qM cyI cyJ cyZ m_th m_o m_f m_r m_b m_a u_F u_R g_F g_R g_C g_L m_rl m_lf m_ov m_pl g_S g_O g_Y g_H m_st g_W m_rm m_fs g_M) H → va_D A (mo_W q6 qA qB qF qR qC qL qS qO qY qH qW qM cyI cyJ cyZ m_th m_o m_f m_r m_b m_a u_F u_R g_F g_R g_C g_L m_rl m_lf m_ov m_pl g_S g_O g_Y g_H m_st g_W m_rm m_fs g_M) → va_S A s.heap H locs → lv_has ls 5 [(0, .ref q6), (2, .int (1 : Int32)), (3, .int (0 : Int32))] → vc_X6_isBroken_s168_1_0 fu  m_o m_f m_r g_F g_R g_C m_ov g_M  → cf_X6_isBroken_s168_1_0 fu  m_o m_f m_r g_F g_R g_C m_ov g_M  = R → W p l e (headSpec wsX6_isBroken ({ frames := 2, cells := 0, slots := 0, locals := 46 })).room s m ([.ref q6, .int a0] : List Value).toArray below meth c H locs 0 0 (MQ below (mu_Q (some (.int R.2)) (dC, dI) kcl (mo_W q6 qA qB qF qR qC qL qS qO qY qH qW qM cyI cyJ cyZ m_th m_o m_f m_r m_b m_a u_F u_R g_F g_R g_C g_L m_rl m_lf m_ov m_pl g_S g_O g_Y g_H m_st g_W m_rm m_fs R.1) A) ([.ref q6, .int a0] : List Value).toArray s 0 0 A) (F0 m 168 ls []) := by
    intro  g_M  H locs ls hP hD hS hl hV hR
    unfold cf_X6_isBroken_s168_1_0 at hR
    unfold vc_X6_isBroken_s168_1_0 at hV
    refine lv_iload_n hx hb dX6_isBroken_168 rfl (lv_at hl 2 rfl) ?_
    refine lv_aload_n hx hb dX6_isBroken_169 rfl (lv_at hl 0 rfl) ?_
    refine va_get (D := (dC, dI)) (ci := 4) (v := .int m_f) (C := RX6) (T := TX6) (N := 25) hx hb hts h1_ hown hK hP 0 rfl rfl 2 (by decide) h5_ (fun _ h9 => h9) rfl dX6_isBroken_170 ?_
    refine lv_icmp_ge (tgt := 221) hx hb dX6_isBroken_173 (by decide) (fun c_43 => ?_) (fun c_43 => ?_)
    · rw [if_pos c_43] at hR
      have hV := hV.1 c_43
      exact Ks221_1  g_M  H locs ls hP hD hS (lv_sub hl [0, 1] rfl) hV hR
    · rw [if_neg c_43] at hR
      have hV := hV.2 c_43
      refine lv_aload_n hx hb dX6_isBroken_176 rfl (lv_at hl 0 rfl) ?_
      refine va_get (D := (dC, dI)) (ci := 4) (v := .ref qF) (C := RX6) (T := TX6) (N := 25) hx hb hts h1_ hown hK hP 0 rfl rfl 8 (by decide) h6_ (fun _ h9 => h9) rfl dX6_isBroken_177 ?_
      refine lv_iconst (v := (2 : Int32)) hx hb dX6_isBroken_180 (by decide +kernel) ?_
      refine lv_iload_n hx hb dX6_isBroken_181 rfl (lv_at hl 1 rfl) ?_
      refine lv_imul hx hb dX6_isBroken_182 ?_
      refine ek_v (P := fun z => W p l e (headSpec wsX6_isBroken ({ frames := 2, cells := 0, slots := 0, locals := 46 })).room s m ([.ref q6, .int a0] : List Value).toArray below meth c H locs 0 0 _ (F0 m 183 ls (.int z :: [.ref qF]))) (b := (2 : Int32)) (by decide +kernel) ?_
      refine lv_iload_n hx hb dX6_isBroken_183 rfl (lv_at hl 2 rfl) ?_
      refine lv_iadd hx hb dX6_isBroken_184 ?_
      refine ek_v (P := fun z => W p l e (headSpec wsX6_isBroken ({ frames := 2, cells := 0, slots := 0, locals := 46 })).room s m ([.ref q6, .int a0] : List Value).toArray below meth c H locs 0 0 _ (F0 m 185 ls (.int z :: [.ref qF]))) (b := (2 : Int32)) (by decide +kernel) ?_
      refine va_iald hx hb hK hP 3 0 rfl rfl (by unfold vp_in; decide +kernel) dX6_isBroken_185 ?_
      refine lv_istore (lv' := [(4, .int (g_F ((2 : Int32)).toNatClampNeg)), (0, .ref q6), (2, .int (1 : Int32)), (3, .int (0 : Int32))]) hx hb dX6_isBroken_186 hl (by decide) rfl (fun ls hl => ?_)
      refine lv_iload hx hb dX6_isBroken_188 (lv_at hl 0 rfl) ?_
      refine lv_if_lt (tgt := 215) hx hb dX6_isBroken_190 (by decide) (fun c_72 => ?_) (fun c_72 => ?_)
      · rw [if_pos c_72] at hR
        have hV := hV.1 c_72
        exact Ks215_1_0  g_M  H locs ls hP hD hS (lv_sub hl [1, 2, 3] rfl) hV hR
      · rw [if_neg c_72] at hR
        have hV := hV.2 c_72
        refine lv_aload_n hx hb dX6_isBroken_193 rfl (lv_at hl 1 rfl) ?_
        refine va_get (D := (dC, dI)) (ci := 4) (v := .ref qC) (C := RX6) (T := TX6) (N := 25) hx hb hts h1_ hown hK hP 0 rfl rfl 10 (by decide) h4_ (fun _ h9 => h9) rfl dX6_isBroken_194 ?_
        refine lv_iload hx hb dX6_isBroken_197 (lv_at hl 0 rfl) ?_
        obtain ⟨hi79, hV⟩ := hV
        refine va_iald hx hb hK hP 5 0 rfl rfl hi79 dX6_isBroken_199 ?_
        refine lv_if_ne (tgt := 215) hx hb dX6_isBroken_200 (by decide) (fun c_80 => ?_) (fun c_80 => ?_)
        · rw [if_neg c_80] at hR
          have hV := hV.2 c_80
          exact Ks215_1_0  g_M  H locs ls hP hD hS (lv_sub hl [1, 2, 3] rfl) hV hR
        · rw [if_pos c_80] at hR
          have hV := hV.1 c_80
          refine lv_aload_n hx hb dX6_isBroken_203 rfl (lv_at hl 1 rfl) ?_
          refine va_get (D := (dC, dI)) (ci := 4) (v := .ref qM) (C := RX6) (T := TX6) (N := 25) hx hb hts h1_ hown hK hP 0 rfl rfl 24 (by decide) h3_ (fun _ h9 => h9) rfl dX6_isBroken_204 ?_
          refine lv_iload hx hb dX6_isBroken_207 (lv_at hl 0 rfl) ?_
          obtain ⟨hi81, hV⟩ := hV
          refine va_zald hx hb hK hP 12 2 rfl rfl hi81 dX6_isBroken_209 ?_
          refine lv_if_ne (tgt := 215) hx hb dX6_isBroken_210 (by decide) (fun c_82 => ?_) (fun c_82 => ?_)
          · rw [if_neg c_82] at hR
            have hV := hV.2 c_82
            exact Ks215_1_0  g_M  H locs ls hP hD hS (lv_sub hl [1, 2, 3] rfl) hV hR
          · rw [if_pos c_82] at hR
            refine lv_iconst (v := (1 : Int32)) hx hb dX6_isBroken_213 (by decide +kernel) ?_
            rw [← hR]
            exact W.zret (ty := .boolean) (v := (1 : Int32)) hx hb hr (by decide +kernel) (fun t ht _ => ⟨rfl, by rw [ht]; exact hP, hS.F ht⟩) hS.2.2 dX6_isBroken_214
  have Ks145_1 : ∀  (g_M : Nat → Int32)  (H : Heap) (locs : List Loc) (ls : Array Slot), va_P (dC, dI) kcl (mo_W q6 qA qB qF qR qC qL qS qO qY qH qW qM cyI cyJ cyZ m_th m_o m_f m_r m_b m_a u_F u_R g_F g_R g_C g_L m_rl m_lf m_ov m_pl g_S g_O g_Y g_H m_st g_W m_rm m_fs g_M) H → va_D A (mo_W q6 qA qB qF qR qC qL qS qO qY qH qW qM cyI cyJ cyZ m_th m_o m_f m_r m_b m_a u_F u_R g_F g_R g_C g_L m_rl m_lf m_ov m_pl g_S g_O g_Y g_H m_st g_W m_rm m_fs g_M) → va_S A s.heap H locs → lv_has ls 5 [(0, .ref q6), (2, .int (1 : Int32))] → vc_X6_isBroken_s145_1 fu  m_o m_f m_r g_F g_R g_C m_ov g_M  → cf_X6_isBroken_s145_1 fu  m_o m_f m_r g_F g_R g_C m_ov g_M  = R → W p l e (headSpec wsX6_isBroken ({ frames := 2, cells := 0, slots := 0, locals := 46 })).room s m ([.ref q6, .int a0] : List Value).toArray below meth c H locs 0 0 (MQ below (mu_Q (some (.int R.2)) (dC, dI) kcl (mo_W q6 qA qB qF qR qC qL qS qO qY qH qW qM cyI cyJ cyZ m_th m_o m_f m_r m_b m_a u_F u_R g_F g_R g_C g_L m_rl m_lf m_ov m_pl g_S g_O g_Y g_H m_st g_W m_rm m_fs R.1) A) ([.ref q6, .int a0] : List Value).toArray s 0 0 A) (F0 m 145 ls []) := by
    intro  g_M  H locs ls hP hD hS hl hV hR
    unfold cf_X6_isBroken_s145_1 at hR
    unfold vc_X6_isBroken_s145_1 at hV
    refine lv_iload_n hx hb dX6_isBroken_145 rfl (lv_at hl 1 rfl) ?_
    refine lv_aload_n hx hb dX6_isBroken_146 rfl (lv_at hl 0 rfl) ?_
    refine va_get (D := (dC, dI)) (ci := 4) (v := .int m_o) (C := RX6) (T := TX6) (N := 25) hx hb hts h1_ hown hK hP 0 rfl rfl 1 (by decide) h2_ (fun _ h9 => h9) rfl dX6_isBroken_147 ?_
    refine lv_icmp_ge (tgt := 227) hx hb dX6_isBroken_150 (by decide) (fun c_41 => ?_) (fun c_41 => ?_)
    · rw [if_pos c_41] at hR
      refine lv_iconst (v := (0 : Int32)) hx hb dX6_isBroken_227 (by decide +kernel) ?_
      rw [← hR]
      exact W.zret (ty := .boolean) (v := (0 : Int32)) hx hb hr (by decide +kernel) (fun t ht _ => ⟨rfl, by rw [ht]; exact hP, hS.F ht⟩) hS.2.2 dX6_isBroken_228
    · rw [if_neg c_41] at hR
      have hV := hV.2 c_41
      refine lv_aload_n hx hb dX6_isBroken_153 rfl (lv_at hl 0 rfl) ?_
      refine va_get (D := (dC, dI)) (ci := 4) (v := .ref qC) (C := RX6) (T := TX6) (N := 25) hx hb hts h1_ hown hK hP 0 rfl rfl 10 (by decide) h4_ (fun _ h9 => h9) rfl dX6_isBroken_154 ?_
      refine lv_iload_n hx hb dX6_isBroken_157 rfl (lv_at hl 1 rfl) ?_
      refine va_iald hx hb hK hP 5 0 rfl rfl (by unfold vp_in; decide +kernel) dX6_isBroken_158 ?_
      refine lv_iconst (v := (2 : Int32)) hx hb dX6_isBroken_159 (by decide +kernel) ?_
      refine lv_icmp_eq (tgt := 166) hx hb dX6_isBroken_160 (by decide) (fun c_42 => ?_) (fun c_42 => ?_)
      · rw [if_pos c_42] at hR
        have hV := hV.1 c_42
        refine lv_iconst (v := (0 : Int32)) hx hb dX6_isBroken_166 (by decide +kernel) ?_
        refine lv_istore_n (lv' := [(3, .int (0 : Int32)), (0, .ref q6), (2, .int (1 : Int32))]) hx hb dX6_isBroken_167 rfl hl (by decide) rfl (fun ls hl => ?_)
        exact Ks168_1_0  g_M  H locs ls hP hD hS (lv_sub hl [1, 2, 0] rfl) hV hR
      · rw [if_neg c_42] at hR
        have hV := hV.2 c_42
        refine lv_goto (tgt := 221) hx hb dX6_isBroken_163 (by decide) ?_
        exact Ks221_1  g_M  H locs ls hP hD hS (lv_sub hl [0, 1] rfl) hV hR
  have Ks221_0 : ∀  (g_M : Nat → Int32)  (H : Heap) (locs : List Loc) (ls : Array Slot), va_P (dC, dI) kcl (mo_W q6 qA qB qF qR qC qL qS qO qY qH qW qM cyI cyJ cyZ m_th m_o m_f m_r m_b m_a u_F u_R g_F g_R g_C g_L m_rl m_lf m_ov m_pl g_S g_O g_Y g_H m_st g_W m_rm m_fs g_M) H → va_D A (mo_W q6 qA qB qF qR qC qL qS qO qY qH qW qM cyI cyJ cyZ m_th m_o m_f m_r m_b m_a u_F u_R g_F g_R g_C g_L m_rl m_lf m_ov m_pl g_S g_O g_Y g_H m_st g_W m_rm m_fs g_M) → va_S A s.heap H locs → lv_has ls 5 [(0, .ref q6), (2, .int (0 : Int32))] → vc_X6_isBroken_s221_0 fu  m_o m_f m_r g_F g_R g_C m_ov g_M  → cf_X6_isBroken_s221_0 fu  m_o m_f m_r g_F g_R g_C m_ov g_M  = R → W p l e (headSpec wsX6_isBroken ({ frames := 2, cells := 0, slots := 0, locals := 46 })).room s m ([.ref q6, .int a0] : List Value).toArray below meth c H locs 0 0 (MQ below (mu_Q (some (.int R.2)) (dC, dI) kcl (mo_W q6 qA qB qF qR qC qL qS qO qY qH qW qM cyI cyJ cyZ m_th m_o m_f m_r m_b m_a u_F u_R g_F g_R g_C g_L m_rl m_lf m_ov m_pl g_S g_O g_Y g_H m_st g_W m_rm m_fs R.1) A) ([.ref q6, .int a0] : List Value).toArray s 0 0 A) (F0 m 221 ls []) := by
    intro  g_M  H locs ls hP hD hS hl hV hR
    unfold cf_X6_isBroken_s221_0 at hR
    unfold vc_X6_isBroken_s221_0 at hV
    refine lv_iinc (v := (1 : Int32)) (lv' := [(2, .int (1 : Int32)), (0, .ref q6)]) hx hb dX6_isBroken_221 hl (k := 1) rfl (by decide +kernel) (by decide) rfl (fun ls hl => ?_)
    refine lv_goto (tgt := 145) hx hb dX6_isBroken_224 (by decide) ?_
    exact Ks145_1  g_M  H locs ls hP hD hS (lv_sub hl [1, 0] rfl) hV hR
  have Ks168_0_2 : ∀  (g_M : Nat → Int32)  (H : Heap) (locs : List Loc) (ls : Array Slot), va_P (dC, dI) kcl (mo_W q6 qA qB qF qR qC qL qS qO qY qH qW qM cyI cyJ cyZ m_th m_o m_f m_r m_b m_a u_F u_R g_F g_R g_C g_L m_rl m_lf m_ov m_pl g_S g_O g_Y g_H m_st g_W m_rm m_fs g_M) H → va_D A (mo_W q6 qA qB qF qR qC qL qS qO qY qH qW qM cyI cyJ cyZ m_th m_o m_f m_r m_b m_a u_F u_R g_F g_R g_C g_L m_rl m_lf m_ov m_pl g_S g_O g_Y g_H m_st g_W m_rm m_fs g_M) → va_S A s.heap H locs → lv_has ls 5 [(0, .ref q6), (2, .int (0 : Int32)), (3, .int (2 : Int32))] → vc_X6_isBroken_s168_0_2 fu  m_o m_f m_r g_F g_R g_C m_ov g_M  → cf_X6_isBroken_s168_0_2 fu  m_o m_f m_r g_F g_R g_C m_ov g_M  = R → W p l e (headSpec wsX6_isBroken ({ frames := 2, cells := 0, slots := 0, locals := 46 })).room s m ([.ref q6, .int a0] : List Value).toArray below meth c H locs 0 0 (MQ below (mu_Q (some (.int R.2)) (dC, dI) kcl (mo_W q6 qA qB qF qR qC qL qS qO qY qH qW qM cyI cyJ cyZ m_th m_o m_f m_r m_b m_a u_F u_R g_F g_R g_C g_L m_rl m_lf m_ov m_pl g_S g_O g_Y g_H m_st g_W m_rm m_fs R.1) A) ([.ref q6, .int a0] : List Value).toArray s 0 0 A) (F0 m 168 ls []) := by
    intro  g_M  H locs ls hP hD hS hl hV hR
    unfold cf_X6_isBroken_s168_0_2 at hR
    unfold vc_X6_isBroken_s168_0_2 at hV
    refine lv_iload_n hx hb dX6_isBroken_168 rfl (lv_at hl 2 rfl) ?_
    refine lv_aload_n hx hb dX6_isBroken_169 rfl (lv_at hl 0 rfl) ?_
    refine va_get (D := (dC, dI)) (ci := 4) (v := .int m_f) (C := RX6) (T := TX6) (N := 25) hx hb hts h1_ hown hK hP 0 rfl rfl 2 (by decide) h5_ (fun _ h9 => h9) rfl dX6_isBroken_170 ?_
    refine lv_icmp_ge (tgt := 221) hx hb dX6_isBroken_173 (by decide) (fun _ => ?_) (fun c_0 => absurd hm_f c_0)
    exact Ks221_0  g_M  H locs ls hP hD hS (lv_sub hl [0, 1] rfl) hV hR
  have Ks215_0_1 : ∀  (g_M : Nat → Int32)  (H : Heap) (locs : List Loc) (ls : Array Slot), va_P (dC, dI) kcl (mo_W q6 qA qB qF qR qC qL qS qO qY qH qW qM cyI cyJ cyZ m_th m_o m_f m_r m_b m_a u_F u_R g_F g_R g_C g_L m_rl m_lf m_ov m_pl g_S g_O g_Y g_H m_st g_W m_rm m_fs g_M) H → va_D A (mo_W q6 qA qB qF qR qC qL qS qO qY qH qW qM cyI cyJ cyZ m_th m_o m_f m_r m_b m_a u_F u_R g_F g_R g_C g_L m_rl m_lf m_ov m_pl g_S g_O g_Y g_H m_st g_W m_rm m_fs g_M) → va_S A s.heap H locs → lv_has ls 5 [(0, .ref q6), (2, .int (0 : Int32)), (3, .int (1 : Int32))] → vc_X6_isBroken_s215_0_1 fu  m_o m_f m_r g_F g_R g_C m_ov g_M  → cf_X6_isBroken_s215_0_1 fu  m_o m_f m_r g_F g_R g_C m_ov g_M  = R → W p l e (headSpec wsX6_isBroken ({ frames := 2, cells := 0, slots := 0, locals := 46 })).room s m ([.ref q6, .int a0] : List Value).toArray below meth c H locs 0 0 (MQ below (mu_Q (some (.int R.2)) (dC, dI) kcl (mo_W q6 qA qB qF qR qC qL qS qO qY qH qW qM cyI cyJ cyZ m_th m_o m_f m_r m_b m_a u_F u_R g_F g_R g_C g_L m_rl m_lf m_ov m_pl g_S g_O g_Y g_H m_st g_W m_rm m_fs R.1) A) ([.ref q6, .int a0] : List Value).toArray s 0 0 A) (F0 m 215 ls []) := by
    intro  g_M  H locs ls hP hD hS hl hV hR
    unfold cf_X6_isBroken_s215_0_1 at hR
    unfold vc_X6_isBroken_s215_0_1 at hV
    refine lv_iinc (v := (2 : Int32)) (lv' := [(3, .int (2 : Int32)), (0, .ref q6), (2, .int (0 : Int32))]) hx hb dX6_isBroken_215 hl (k := 2) rfl (by decide +kernel) (by decide) rfl (fun ls hl => ?_)
    refine lv_goto (tgt := 168) hx hb dX6_isBroken_218 (by decide) ?_
    exact Ks168_0_2  g_M  H locs ls hP hD hS (lv_sub hl [1, 2, 0] rfl) hV hR
  have Ks168_0_1 : ∀  (g_M : Nat → Int32)  (H : Heap) (locs : List Loc) (ls : Array Slot), va_P (dC, dI) kcl (mo_W q6 qA qB qF qR qC qL qS qO qY qH qW qM cyI cyJ cyZ m_th m_o m_f m_r m_b m_a u_F u_R g_F g_R g_C g_L m_rl m_lf m_ov m_pl g_S g_O g_Y g_H m_st g_W m_rm m_fs g_M) H → va_D A (mo_W q6 qA qB qF qR qC qL qS qO qY qH qW qM cyI cyJ cyZ m_th m_o m_f m_r m_b m_a u_F u_R g_F g_R g_C g_L m_rl m_lf m_ov m_pl g_S g_O g_Y g_H m_st g_W m_rm m_fs g_M) → va_S A s.heap H locs → lv_has ls 5 [(0, .ref q6), (2, .int (0 : Int32)), (3, .int (1 : Int32))] → vc_X6_isBroken_s168_0_1 fu  m_o m_f m_r g_F g_R g_C m_ov g_M  → cf_X6_isBroken_s168_0_1 fu  m_o m_f m_r g_F g_R g_C m_ov g_M  = R → W p l e (headSpec wsX6_isBroken ({ frames := 2, cells := 0, slots := 0, locals := 46 })).room s m ([.ref q6, .int a0] : List Value).toArray below meth c H locs 0 0 (MQ below (mu_Q (some (.int R.2)) (dC, dI) kcl (mo_W q6 qA qB qF qR qC qL qS qO qY qH qW qM cyI cyJ cyZ m_th m_o m_f m_r m_b m_a u_F u_R g_F g_R g_C g_L m_rl m_lf m_ov m_pl g_S g_O g_Y g_H m_st g_W m_rm m_fs R.1) A) ([.ref q6, .int a0] : List Value).toArray s 0 0 A) (F0 m 168 ls []) := by
    intro  g_M  H locs ls hP hD hS hl hV hR
    unfold cf_X6_isBroken_s168_0_1 at hR
    unfold vc_X6_isBroken_s168_0_1 at hV
    refine lv_iload_n hx hb dX6_isBroken_168 rfl (lv_at hl 2 rfl) ?_
    refine lv_aload_n hx hb dX6_isBroken_169 rfl (lv_at hl 0 rfl) ?_
    refine va_get (D := (dC, dI)) (ci := 4) (v := .int m_f) (C := RX6) (T := TX6) (N := 25) hx hb hts h1_ hown hK hP 0 rfl rfl 2 (by decide) h5_ (fun _ h9 => h9) rfl dX6_isBroken_170 ?_
    refine lv_icmp_ge (tgt := 221) hx hb dX6_isBroken_173 (by decide) (fun c_84 => ?_) (fun c_84 => ?_)
    · rw [if_pos c_84] at hR
      have hV := hV.1 c_84
      exact Ks221_0  g_M  H locs ls hP hD hS (lv_sub hl [0, 1] rfl) hV hR
    · rw [if_neg c_84] at hR
      have hV := hV.2 c_84
      refine lv_aload_n hx hb dX6_isBroken_176 rfl (lv_at hl 0 rfl) ?_
      refine va_get (D := (dC, dI)) (ci := 4) (v := .ref qF) (C := RX6) (T := TX6) (N := 25) hx hb hts h1_ hown hK hP 0 rfl rfl 8 (by decide) h6_ (fun _ h9 => h9) rfl dX6_isBroken_177 ?_
      refine lv_iconst (v := (2 : Int32)) hx hb dX6_isBroken_180 (by decide +kernel) ?_
      refine lv_iload_n hx hb dX6_isBroken_181 rfl (lv_at hl 1 rfl) ?_
      refine lv_imul hx hb dX6_isBroken_182 ?_
      refine ek_v (P := fun z => W p l e (headSpec wsX6_isBroken ({ frames := 2, cells := 0, slots := 0, locals := 46 })).room s m ([.ref q6, .int a0] : List Value).toArray below meth c H locs 0 0 _ (F0 m 183 ls (.int z :: [.ref qF]))) (b := (0 : Int32)) (by decide +kernel) ?_
      refine lv_iload_n hx hb dX6_isBroken_183 rfl (lv_at hl 2 rfl) ?_
      refine lv_iadd hx hb dX6_isBroken_184 ?_
      refine ek_v (P := fun z => W p l e (headSpec wsX6_isBroken ({ frames := 2, cells := 0, slots := 0, locals := 46 })).room s m ([.ref q6, .int a0] : List Value).toArray below meth c H locs 0 0 _ (F0 m 185 ls (.int z :: [.ref qF]))) (b := (1 : Int32)) (by decide +kernel) ?_
      refine va_iald hx hb hK hP 3 0 rfl rfl (by unfold vp_in; decide +kernel) dX6_isBroken_185 ?_
      refine lv_istore (lv' := [(4, .int (g_F ((1 : Int32)).toNatClampNeg)), (0, .ref q6), (2, .int (0 : Int32)), (3, .int (1 : Int32))]) hx hb dX6_isBroken_186 hl (by decide) rfl (fun ls hl => ?_)
      refine lv_iload hx hb dX6_isBroken_188 (lv_at hl 0 rfl) ?_
      refine lv_if_lt (tgt := 215) hx hb dX6_isBroken_190 (by decide) (fun c_85 => ?_) (fun c_85 => ?_)
      · rw [if_pos c_85] at hR
        have hV := hV.1 c_85
        exact Ks215_0_1  g_M  H locs ls hP hD hS (lv_sub hl [1, 2, 3] rfl) hV hR
      · rw [if_neg c_85] at hR
        have hV := hV.2 c_85
        refine lv_aload_n hx hb dX6_isBroken_193 rfl (lv_at hl 1 rfl) ?_
        refine va_get (D := (dC, dI)) (ci := 4) (v := .ref qC) (C := RX6) (T := TX6) (N := 25) hx hb hts h1_ hown hK hP 0 rfl rfl 10 (by decide) h4_ (fun _ h9 => h9) rfl dX6_isBroken_194 ?_
        refine lv_iload hx hb dX6_isBroken_197 (lv_at hl 0 rfl) ?_
        obtain ⟨hi86, hV⟩ := hV
        refine va_iald hx hb hK hP 5 0 rfl rfl hi86 dX6_isBroken_199 ?_
        refine lv_if_ne (tgt := 215) hx hb dX6_isBroken_200 (by decide) (fun c_87 => ?_) (fun c_87 => ?_)
        · rw [if_neg c_87] at hR
          have hV := hV.2 c_87
          exact Ks215_0_1  g_M  H locs ls hP hD hS (lv_sub hl [1, 2, 3] rfl) hV hR
        · rw [if_pos c_87] at hR
          have hV := hV.1 c_87
          refine lv_aload_n hx hb dX6_isBroken_203 rfl (lv_at hl 1 rfl) ?_
          refine va_get (D := (dC, dI)) (ci := 4) (v := .ref qM) (C := RX6) (T := TX6) (N := 25) hx hb hts h1_ hown hK hP 0 rfl rfl 24 (by decide) h3_ (fun _ h9 => h9) rfl dX6_isBroken_204 ?_
          refine lv_iload hx hb dX6_isBroken_207 (lv_at hl 0 rfl) ?_
          obtain ⟨hi88, hV⟩ := hV
          refine va_zald hx hb hK hP 12 2 rfl rfl hi88 dX6_isBroken_209 ?_
          refine lv_if_ne (tgt := 215) hx hb dX6_isBroken_210 (by decide) (fun c_89 => ?_) (fun c_89 => ?_)
          · rw [if_neg c_89] at hR
            have hV := hV.2 c_89
            exact Ks215_0_1  g_M  H locs ls hP hD hS (lv_sub hl [1, 2, 3] rfl) hV hR
          · rw [if_pos c_89] at hR
            refine lv_iconst (v := (1 : Int32)) hx hb dX6_isBroken_213 (by decide +kernel) ?_
            rw [← hR]
            exact W.zret (ty := .boolean) (v := (1 : Int32)) hx hb hr (by decide +kernel) (fun t ht _ => ⟨rfl, by rw [ht]; exact hP, hS.F ht⟩) hS.2.2 dX6_isBroken_214
  have Ks215_0_0 : ∀  (g_M : Nat → Int32)  (H : Heap) (locs : List Loc) (ls : Array Slot), va_P (dC, dI) kcl (mo_W q6 qA qB qF qR qC qL qS qO qY qH qW qM cyI cyJ cyZ m_th m_o m_f m_r m_b m_a u_F u_R g_F g_R g_C g_L m_rl m_lf m_ov m_pl g_S g_O g_Y g_H m_st g_W m_rm m_fs g_M) H → va_D A (mo_W q6 qA qB qF qR qC qL qS qO qY qH qW qM cyI cyJ cyZ m_th m_o m_f m_r m_b m_a u_F u_R g_F g_R g_C g_L m_rl m_lf m_ov m_pl g_S g_O g_Y g_H m_st g_W m_rm m_fs g_M) → va_S A s.heap H locs → lv_has ls 5 [(0, .ref q6), (2, .int (0 : Int32)), (3, .int (0 : Int32))] → vc_X6_isBroken_s215_0_0 fu  m_o m_f m_r g_F g_R g_C m_ov g_M  → cf_X6_isBroken_s215_0_0 fu  m_o m_f m_r g_F g_R g_C m_ov g_M  = R → W p l e (headSpec wsX6_isBroken ({ frames := 2, cells := 0, slots := 0, locals := 46 })).room s m ([.ref q6, .int a0] : List Value).toArray below meth c H locs 0 0 (MQ below (mu_Q (some (.int R.2)) (dC, dI) kcl (mo_W q6 qA qB qF qR qC qL qS qO qY qH qW qM cyI cyJ cyZ m_th m_o m_f m_r m_b m_a u_F u_R g_F g_R g_C g_L m_rl m_lf m_ov m_pl g_S g_O g_Y g_H m_st g_W m_rm m_fs R.1) A) ([.ref q6, .int a0] : List Value).toArray s 0 0 A) (F0 m 215 ls []) := by
    intro  g_M  H locs ls hP hD hS hl hV hR
    unfold cf_X6_isBroken_s215_0_0 at hR
    unfold vc_X6_isBroken_s215_0_0 at hV
    refine lv_iinc (v := (1 : Int32)) (lv' := [(3, .int (1 : Int32)), (0, .ref q6), (2, .int (0 : Int32))]) hx hb dX6_isBroken_215 hl (k := 2) rfl (by decide +kernel) (by decide) rfl (fun ls hl => ?_)
    refine lv_goto (tgt := 168) hx hb dX6_isBroken_218 (by decide) ?_
    exact Ks168_0_1  g_M  H locs ls hP hD hS (lv_sub hl [1, 2, 0] rfl) hV hR
  have Ks168_0_0 : ∀  (g_M : Nat → Int32)  (H : Heap) (locs : List Loc) (ls : Array Slot), va_P (dC, dI) kcl (mo_W q6 qA qB qF qR qC qL qS qO qY qH qW qM cyI cyJ cyZ m_th m_o m_f m_r m_b m_a u_F u_R g_F g_R g_C g_L m_rl m_lf m_ov m_pl g_S g_O g_Y g_H m_st g_W m_rm m_fs g_M) H → va_D A (mo_W q6 qA qB qF qR qC qL qS qO qY qH qW qM cyI cyJ cyZ m_th m_o m_f m_r m_b m_a u_F u_R g_F g_R g_C g_L m_rl m_lf m_ov m_pl g_S g_O g_Y g_H m_st g_W m_rm m_fs g_M) → va_S A s.heap H locs → lv_has ls 5 [(0, .ref q6), (2, .int (0 : Int32)), (3, .int (0 : Int32))] → vc_X6_isBroken_s168_0_0 fu  m_o m_f m_r g_F g_R g_C m_ov g_M  → cf_X6_isBroken_s168_0_0 fu  m_o m_f m_r g_F g_R g_C m_ov g_M  = R → W p l e (headSpec wsX6_isBroken ({ frames := 2, cells := 0, slots := 0, locals := 46 })).room s m ([.ref q6, .int a0] : List Value).toArray below meth c H locs 0 0 (MQ below (mu_Q (some (.int R.2)) (dC, dI) kcl (mo_W q6 qA qB qF qR qC qL qS qO qY qH qW qM cyI cyJ cyZ m_th m_o m_f m_r m_b m_a u_F u_R g_F g_R g_C g_L m_rl m_lf m_ov m_pl g_S g_O g_Y g_H m_st g_W m_rm m_fs R.1) A) ([.ref q6, .int a0] : List Value).toArray s 0 0 A) (F0 m 168 ls []) := by
    intro  g_M  H locs ls hP hD hS hl hV hR
    unfold cf_X6_isBroken_s168_0_0 at hR
    unfold vc_X6_isBroken_s168_0_0 at hV
    refine lv_iload_n hx hb dX6_isBroken_168 rfl (lv_at hl 2 rfl) ?_
    refine lv_aload_n hx hb dX6_isBroken_169 rfl (lv_at hl 0 rfl) ?_
    refine va_get (D := (dC, dI)) (ci := 4) (v := .int m_f) (C := RX6) (T := TX6) (N := 25) hx hb hts h1_ hown hK hP 0 rfl rfl 2 (by decide) h5_ (fun _ h9 => h9) rfl dX6_isBroken_170 ?_
    refine lv_icmp_ge (tgt := 221) hx hb dX6_isBroken_173 (by decide) (fun c_40 => ?_) (fun c_40 => ?_)
    · rw [if_pos c_40] at hR
      have hV := hV.1 c_40
      exact Ks221_0  g_M  H locs ls hP hD hS (lv_sub hl [0, 1] rfl) hV hR
    · rw [if_neg c_40] at hR
      have hV := hV.2 c_40
      refine lv_aload_n hx hb dX6_isBroken_176 rfl (lv_at hl 0 rfl) ?_
      refine va_get (D := (dC, dI)) (ci := 4) (v := .ref qF) (C := RX6) (T := TX6) (N := 25) hx hb hts h1_ hown hK hP 0 rfl rfl 8 (by decide) h6_ (fun _ h9 => h9) rfl dX6_isBroken_177 ?_
      refine lv_iconst (v := (2 : Int32)) hx hb dX6_isBroken_180 (by decide +kernel) ?_
      refine lv_iload_n hx hb dX6_isBroken_181 rfl (lv_at hl 1 rfl) ?_
      refine lv_imul hx hb dX6_isBroken_182 ?_
      refine ek_v (P := fun z => W p l e (headSpec wsX6_isBroken ({ frames := 2, cells := 0, slots := 0, locals := 46 })).room s m ([.ref q6, .int a0] : List Value).toArray below meth c H locs 0 0 _ (F0 m 183 ls (.int z :: [.ref qF]))) (b := (0 : Int32)) (by decide +kernel) ?_
      refine lv_iload_n hx hb dX6_isBroken_183 rfl (lv_at hl 2 rfl) ?_
      refine lv_iadd hx hb dX6_isBroken_184 ?_
      refine ek_v (P := fun z => W p l e (headSpec wsX6_isBroken ({ frames := 2, cells := 0, slots := 0, locals := 46 })).room s m ([.ref q6, .int a0] : List Value).toArray below meth c H locs 0 0 _ (F0 m 185 ls (.int z :: [.ref qF]))) (b := (0 : Int32)) (by decide +kernel) ?_
      refine va_iald hx hb hK hP 3 0 rfl rfl (by unfold vp_in; decide +kernel) dX6_isBroken_185 ?_
      refine lv_istore (lv' := [(4, .int (g_F ((0 : Int32)).toNatClampNeg)), (0, .ref q6), (2, .int (0 : Int32)), (3, .int (0 : Int32))]) hx hb dX6_isBroken_186 hl (by decide) rfl (fun ls hl => ?_)
      refine lv_iload hx hb dX6_isBroken_188 (lv_at hl 0 rfl) ?_
      refine lv_if_lt (tgt := 215) hx hb dX6_isBroken_190 (by decide) (fun c_83 => ?_) (fun c_83 => ?_)
      · rw [if_pos c_83] at hR
        have hV := hV.1 c_83
        exact Ks215_0_0  g_M  H locs ls hP hD hS (lv_sub hl [1, 2, 3] rfl) hV hR
      · rw [if_neg c_83] at hR
        have hV := hV.2 c_83
        refine lv_aload_n hx hb dX6_isBroken_193 rfl (lv_at hl 1 rfl) ?_
        refine va_get (D := (dC, dI)) (ci := 4) (v := .ref qC) (C := RX6) (T := TX6) (N := 25) hx hb hts h1_ hown hK hP 0 rfl rfl 10 (by decide) h4_ (fun _ h9 => h9) rfl dX6_isBroken_194 ?_
        refine lv_iload hx hb dX6_isBroken_197 (lv_at hl 0 rfl) ?_
        obtain ⟨hi90, hV⟩ := hV
        refine va_iald hx hb hK hP 5 0 rfl rfl hi90 dX6_isBroken_199 ?_
        refine lv_if_ne (tgt := 215) hx hb dX6_isBroken_200 (by decide) (fun c_91 => ?_) (fun c_91 => ?_)
        · rw [if_neg c_91] at hR
          have hV := hV.2 c_91
          exact Ks215_0_0  g_M  H locs ls hP hD hS (lv_sub hl [1, 2, 3] rfl) hV hR
        · rw [if_pos c_91] at hR
          have hV := hV.1 c_91
          refine lv_aload_n hx hb dX6_isBroken_203 rfl (lv_at hl 1 rfl) ?_
          refine va_get (D := (dC, dI)) (ci := 4) (v := .ref qM) (C := RX6) (T := TX6) (N := 25) hx hb hts h1_ hown hK hP 0 rfl rfl 24 (by decide) h3_ (fun _ h9 => h9) rfl dX6_isBroken_204 ?_
          refine lv_iload hx hb dX6_isBroken_207 (lv_at hl 0 rfl) ?_
          obtain ⟨hi92, hV⟩ := hV
          refine va_zald hx hb hK hP 12 2 rfl rfl hi92 dX6_isBroken_209 ?_
          refine lv_if_ne (tgt := 215) hx hb dX6_isBroken_210 (by decide) (fun c_93 => ?_) (fun c_93 => ?_)
          · rw [if_neg c_93] at hR
            have hV := hV.2 c_93
            exact Ks215_0_0  g_M  H locs ls hP hD hS (lv_sub hl [1, 2, 3] rfl) hV hR
          · rw [if_pos c_93] at hR
            refine lv_iconst (v := (1 : Int32)) hx hb dX6_isBroken_213 (by decide +kernel) ?_
            rw [← hR]
            exact W.zret (ty := .boolean) (v := (1 : Int32)) hx hb hr (by decide +kernel) (fun t ht _ => ⟨rfl, by rw [ht]; exact hP, hS.F ht⟩) hS.2.2 dX6_isBroken_214
  have Ks145_0 : ∀  (g_M : Nat → Int32)  (H : Heap) (locs : List Loc) (ls : Array Slot), va_P (dC, dI) kcl (mo_W q6 qA qB qF qR qC qL qS qO qY qH qW qM cyI cyJ cyZ m_th m_o m_f m_r m_b m_a u_F u_R g_F g_R g_C g_L m_rl m_lf m_ov m_pl g_S g_O g_Y g_H m_st g_W m_rm m_fs g_M) H → va_D A (mo_W q6 qA qB qF qR qC qL qS qO qY qH qW qM cyI cyJ cyZ m_th m_o m_f m_r m_b m_a u_F u_R g_F g_R g_C g_L m_rl m_lf m_ov m_pl g_S g_O g_Y g_H m_st g_W m_rm m_fs g_M) → va_S A s.heap H locs → lv_has ls 5 [(0, .ref q6), (2, .int (0 : Int32))] → vc_X6_isBroken_s145_0 fu  m_o m_f m_r g_F g_R g_C m_ov g_M  → cf_X6_isBroken_s145_0 fu  m_o m_f m_r g_F g_R g_C m_ov g_M  = R → W p l e (headSpec wsX6_isBroken ({ frames := 2, cells := 0, slots := 0, locals := 46 })).room s m ([.ref q6, .int a0] : List Value).toArray below meth c H locs 0 0 (MQ below (mu_Q (some (.int R.2)) (dC, dI) kcl (mo_W q6 qA qB qF qR qC qL qS qO qY qH qW qM cyI cyJ cyZ m_th m_o m_f m_r m_b m_a u_F u_R g_F g_R g_C g_L m_rl m_lf m_ov m_pl g_S g_O g_Y g_H m_st g_W m_rm m_fs R.1) A) ([.ref q6, .int a0] : List Value).toArray s 0 0 A) (F0 m 145 ls []) := by
    intro  g_M  H locs ls hP hD hS hl hV hR
    unfold cf_X6_isBroken_s145_0 at hR
    unfold vc_X6_isBroken_s145_0 at hV
    refine lv_iload_n hx hb dX6_isBroken_145 rfl (lv_at hl 1 rfl) ?_
    refine lv_aload_n hx hb dX6_isBroken_146 rfl (lv_at hl 0 rfl) ?_
    refine va_get (D := (dC, dI)) (ci := 4) (v := .int m_o) (C := RX6) (T := TX6) (N := 25) hx hb hts h1_ hown hK hP 0 rfl rfl 1 (by decide) h2_ (fun _ h9 => h9) rfl dX6_isBroken_147 ?_
    refine lv_icmp_ge (tgt := 227) hx hb dX6_isBroken_150 (by decide) (fun c_38 => ?_) (fun c_38 => ?_)
    · rw [if_pos c_38] at hR
      refine lv_iconst (v := (0 : Int32)) hx hb dX6_isBroken_227 (by decide +kernel) ?_
      rw [← hR]
      exact W.zret (ty := .boolean) (v := (0 : Int32)) hx hb hr (by decide +kernel) (fun t ht _ => ⟨rfl, by rw [ht]; exact hP, hS.F ht⟩) hS.2.2 dX6_isBroken_228
    · rw [if_neg c_38] at hR
      have hV := hV.2 c_38
      refine lv_aload_n hx hb dX6_isBroken_153 rfl (lv_at hl 0 rfl) ?_
      refine va_get (D := (dC, dI)) (ci := 4) (v := .ref qC) (C := RX6) (T := TX6) (N := 25) hx hb hts h1_ hown hK hP 0 rfl rfl 10 (by decide) h4_ (fun _ h9 => h9) rfl dX6_isBroken_154 ?_
      refine lv_iload_n hx hb dX6_isBroken_157 rfl (lv_at hl 1 rfl) ?_
      refine va_iald hx hb hK hP 5 0 rfl rfl (by unfold vp_in; decide +kernel) dX6_isBroken_158 ?_
      refine lv_iconst (v := (2 : Int32)) hx hb dX6_isBroken_159 (by decide +kernel) ?_
      refine lv_icmp_eq (tgt := 166) hx hb dX6_isBroken_160 (by decide) (fun c_39 => ?_) (fun c_39 => ?_)
      · rw [if_pos c_39] at hR
        have hV := hV.1 c_39
        refine lv_iconst (v := (0 : Int32)) hx hb dX6_isBroken_166 (by decide +kernel) ?_
        refine lv_istore_n (lv' := [(3, .int (0 : Int32)), (0, .ref q6), (2, .int (0 : Int32))]) hx hb dX6_isBroken_167 rfl hl (by decide) rfl (fun ls hl => ?_)
        exact Ks168_0_0  g_M  H locs ls hP hD hS (lv_sub hl [1, 2, 0] rfl) hV hR
      · rw [if_neg c_39] at hR
        have hV := hV.2 c_39
        refine lv_goto (tgt := 221) hx hb dX6_isBroken_163 (by decide) ?_
        exact Ks221_0  g_M  H locs ls hP hD hS (lv_sub hl [0, 1] rfl) hV hR
  have Ks143 : ∀  (g_M : Nat → Int32)  (H : Heap) (locs : List Loc) (ls : Array Slot), va_P (dC, dI) kcl (mo_W q6 qA qB qF qR qC qL qS qO qY qH qW qM cyI cyJ cyZ m_th m_o m_f m_r m_b m_a u_F u_R g_F g_R g_C g_L m_rl m_lf m_ov m_pl g_S g_O g_Y g_H m_st g_W m_rm m_fs g_M) H → va_D A (mo_W q6 qA qB qF qR qC qL qS qO qY qH qW qM cyI cyJ cyZ m_th m_o m_f m_r m_b m_a u_F u_R g_F g_R g_C g_L m_rl m_lf m_ov m_pl g_S g_O g_Y g_H m_st g_W m_rm m_fs g_M) → va_S A s.heap H locs → lv_has ls 5 [(0, .ref q6)] → vc_X6_isBroken_s143 fu  m_o m_f m_r g_F g_R g_C m_ov g_M  → cf_X6_isBroken_s143 fu  m_o m_f m_r g_F g_R g_C m_ov g_M  = R → W p l e (headSpec wsX6_isBroken ({ frames := 2, cells := 0, slots := 0, locals := 46 })).room s m ([.ref q6, .int a0] : List Value).toArray below meth c H locs 0 0 (MQ below (mu_Q (some (.int R.2)) (dC, dI) kcl (mo_W q6 qA qB qF qR qC qL qS qO qY qH qW qM cyI cyJ cyZ m_th m_o m_f m_r m_b m_a u_F u_R g_F g_R g_C g_L m_rl m_lf m_ov m_pl g_S g_O g_Y g_H m_st g_W m_rm m_fs R.1) A) ([.ref q6, .int a0] : List Value).toArray s 0 0 A) (F0 m 143 ls []) := by
    intro  g_M  H locs ls hP hD hS hl hV hR
    unfold cf_X6_isBroken_s143 at hR
    unfold vc_X6_isBroken_s143 at hV
    refine lv_iconst (v := (0 : Int32)) hx hb dX6_isBroken_143 (by decide +kernel) ?_
    refine lv_istore_n (lv' := [(2, .int (0 : Int32)), (0, .ref q6)]) hx hb dX6_isBroken_144 rfl hl (by decide) rfl (fun ls hl => ?_)
    exact Ks145_0  g_M  H locs ls hP hD hS (lv_sub hl [1, 0] rfl) hV hR
  have Ks88_4 : ∀  (g_M : Nat → Int32) (x1 : Int32) (H : Heap) (locs : List Loc) (ls : Array Slot), va_P (dC, dI) kcl (mo_W q6 qA qB qF qR qC qL qS qO qY qH qW qM cyI cyJ cyZ m_th m_o m_f m_r m_b m_a u_F u_R g_F g_R g_C g_L m_rl m_lf m_ov m_pl g_S g_O g_Y g_H m_st g_W m_rm m_fs g_M) H → va_D A (mo_W q6 qA qB qF qR qC qL qS qO qY qH qW qM cyI cyJ cyZ m_th m_o m_f m_r m_b m_a u_F u_R g_F g_R g_C g_L m_rl m_lf m_ov m_pl g_S g_O g_Y g_H m_st g_W m_rm m_fs g_M) → va_S A s.heap H locs → lv_has ls 5 [(0, .ref q6), (1, .int x1), (2, .int (4 : Int32))] → vc_X6_isBroken_s88_4 fu  m_o m_f m_r g_F g_R g_C m_ov g_M x1 → cf_X6_isBroken_s88_4 fu  m_o m_f m_r g_F g_R g_C m_ov g_M x1 = R → W p l e (headSpec wsX6_isBroken ({ frames := 2, cells := 0, slots := 0, locals := 46 })).room s m ([.ref q6, .int a0] : List Value).toArray below meth c H locs 0 0 (MQ below (mu_Q (some (.int R.2)) (dC, dI) kcl (mo_W q6 qA qB qF qR qC qL qS qO qY qH qW qM cyI cyJ cyZ m_th m_o m_f m_r m_b m_a u_F u_R g_F g_R g_C g_L m_rl m_lf m_ov m_pl g_S g_O g_Y g_H m_st g_W m_rm m_fs R.1) A) ([.ref q6, .int a0] : List Value).toArray s 0 0 A) (F0 m 88 ls []) := by
    intro  g_M x1 H locs ls hP hD hS hl hV hR
    unfold cf_X6_isBroken_s88_4 at hR
    unfold vc_X6_isBroken_s88_4 at hV
    refine lv_iload_n hx hb dX6_isBroken_88 rfl (lv_at hl 2 rfl) ?_
    refine lv_iconst (v := (4 : Int32)) hx hb dX6_isBroken_89 (by decide +kernel) ?_
    refine lv_icmp_ge (tgt := 133) hx hb dX6_isBroken_90 (by decide) (fun _ => ?_) (fun c_0 => absurd c_0 (by decide +kernel))
    refine lv_iload_n hx hb dX6_isBroken_133 rfl (lv_at hl 1 rfl) ?_
    refine lv_iconst (v := (2 : Int32)) hx hb dX6_isBroken_134 (by decide +kernel) ?_
    refine lv_icmp_ne (tgt := 143) hx hb dX6_isBroken_135 (by decide) (fun c_37 => ?_) (fun c_37 => ?_)
    · rw [if_neg c_37] at hR
      have hV := hV.2 c_37
      exact Ks143  g_M  H locs ls hP hD hS (lv_sub hl [0] rfl) hV hR
    · rw [if_pos c_37] at hR
      have hV := hV.1 c_37
      refine lv_aload_n hx hb dX6_isBroken_138 rfl (lv_at hl 0 rfl) ?_
      refine lv_iconst (v := (1 : Int32)) hx hb dX6_isBroken_139 (by decide +kernel) ?_
      obtain ⟨hv94, hV⟩ := hV
      refine mu_call (ws' := (mo_W q6 qA qB qF qR qC qL qS qO qY qH qW qM cyI cyJ cyZ m_th m_o m_f m_r m_b m_a u_F u_R g_F g_R g_C g_L m_rl m_lf m_ov m_pl g_S g_O g_Y g_H m_st g_W m_rm m_fs (cf_X6_spread fu m_o m_f g_F g_C g_M (1 : Int32)))) (wr := []) (va_runV (As := [.int (1 : Int32)]) (rest := []) ⟨hx, hb, hml, hown, hts⟩ (c_X6_spread l dC dI q6 qA qB qF qR qC qL qS qO qY qH qW qM cyI cyJ cyZ m_th m_o m_f m_r m_b m_a u_F u_R g_F g_R g_C g_L m_rl m_lf m_ov m_pl g_S g_O g_Y g_H m_st g_W m_rm m_fs g_M H.size fu (1 : Int32) hm_o hm_f hv94) (cwV 1 hts gX6_isBroken_X6_spread rfl rfl rfl (by decide +kernel) ⟨Nat.le_of_ble_eq_true rfl, Nat.le_of_ble_eq_true rfl⟩) ⟨mu_blind, va_recv hK hP (ci := 4) (q0 := 0) rfl rfl, fun U hU hW => ⟨rfl, by rw [hU], by rw [hU]; exact hP, va_K.moved hW.alike (hK.sub [0, 1, 2] rfl), hD.weaken (fun _ _ _ _ => trivial)⟩⟩ rfl rfl hl.1 rfl (lv_room (Nat.le_of_ble_eq_true rfl)) dX6_isBroken_140 ⟨Nat.le_refl _, Nat.le_refl _⟩) hP hD hS hA [0, 1, 2, 3, 4, 5, 6, 7, 8, 9, 10, 11, 12] [] [0, 1, 2, 3, 4, 5, 6, 7, 8, 9, 10, 11, 12] rfl rfl (by decide) (by decide) (by decide) rfl (by decide) rfl (fun H locs hP hD hS => ?_)
      refine W.eq (g2 := F0 m 143 ls []) rfl ?_
      exact Ks143  (cf_X6_spread fu m_o m_f g_F g_C g_M (1 : Int32))  H locs ls hP hD hS (lv_sub hl [0] rfl) hV hR
  have Ks126_3 : ∀  (g_M : Nat → Int32) (x1 : Int32) (y0 : Int32) (y1 : Int32) (H : Heap) (locs : List Loc) (ls : Array Slot), va_P (dC, dI) kcl (mo_W q6 qA qB qF qR qC qL qS qO qY qH qW qM cyI cyJ cyZ m_th m_o m_f m_r m_b m_a u_F u_R g_F g_R g_C g_L m_rl m_lf m_ov m_pl g_S g_O g_Y g_H m_st g_W m_rm m_fs g_M) H → va_D A (mo_W q6 qA qB qF qR qC qL qS qO qY qH qW qM cyI cyJ cyZ m_th m_o m_f m_r m_b m_a u_F u_R g_F g_R g_C g_L m_rl m_lf m_ov m_pl g_S g_O g_Y g_H m_st g_W m_rm m_fs g_M) → va_S A s.heap H locs → lv_has ls 5 [(0, .ref q6), (1, .int x1), (2, .int (3 : Int32))] → vc_X6_isBroken_s126_3 fu  m_o m_f m_r g_F g_R g_C m_ov g_M x1 y0 y1 → cf_X6_isBroken_s126_3 fu  m_o m_f m_r g_F g_R g_C m_ov g_M x1 y0 y1 = R → W p l e (headSpec wsX6_isBroken ({ frames := 2, cells := 0, slots := 0, locals := 46 })).room s m ([.ref q6, .int a0] : List Value).toArray below meth c H locs 0 0 (MQ below (mu_Q (some (.int R.2)) (dC, dI) kcl (mo_W q6 qA qB qF qR qC qL qS qO qY qH qW qM cyI cyJ cyZ m_th m_o m_f m_r m_b m_a u_F u_R g_F g_R g_C g_L m_rl m_lf m_ov m_pl g_S g_O g_Y g_H m_st g_W m_rm m_fs R.1) A) ([.ref q6, .int a0] : List Value).toArray s 0 0 A) (F0 m 126 ls [.int y0, .int y1, .ref qM]) := by
    intro  g_M x1 y0 y1 H locs ls hP hD hS hl hV hR
    unfold cf_X6_isBroken_s126_3 at hR
    unfold vc_X6_isBroken_s126_3 at hV
    obtain ⟨hi36, hV⟩ := hV
    refine va_zast hx hb hK hP hD hS 12 2 rfl rfl hi36 dX6_isBroken_126 (fun H locs hP hD hS => ?_)
    have hP : va_P (dC, dI) kcl (mo_W q6 qA qB qF qR qC qL qS qO qY qH qW qM cyI cyJ cyZ m_th m_o m_f m_r m_b m_a u_F u_R g_F g_R g_C g_L m_rl m_lf m_ov m_pl g_S g_O g_Y g_H m_st g_W m_rm m_fs (upd g_M (y1).toNatClampNeg (vp_nar .boolean y0))) H := hP
    have hD : va_D A (mo_W q6 qA qB qF qR qC qL qS qO qY qH qW qM cyI cyJ cyZ m_th m_o m_f m_r m_b m_a u_F u_R g_F g_R g_C g_L m_rl m_lf m_ov m_pl g_S g_O g_Y g_H m_st g_W m_rm m_fs (upd g_M (y1).toNatClampNeg (vp_nar .boolean y0))) := hD
    refine lv_iinc (v := (4 : Int32)) (lv' := [(2, .int (4 : Int32)), (0, .ref q6), (1, .int x1)]) hx hb dX6_isBroken_127 hl (k := 2) rfl (by decide +kernel) (by decide) rfl (fun ls hl => ?_)
    refine lv_goto (tgt := 88) hx hb dX6_isBroken_130 (by decide) ?_
    exact Ks88_4  (upd g_M (y1).toNatClampNeg (vp_nar .boolean y0)) x1 H locs ls hP hD hS (lv_sub hl [1, 2, 0] rfl) hV hR
  have Ks125_3 : ∀  (g_M : Nat → Int32) (x1 : Int32) (y0 : Int32) (H : Heap) (locs : List Loc) (ls : Array Slot), va_P (dC, dI) kcl (mo_W q6 qA qB qF qR qC qL qS qO qY qH qW qM cyI cyJ cyZ m_th m_o m_f m_r m_b m_a u_F u_R g_F g_R g_C g_L m_rl m_lf m_ov m_pl g_S g_O g_Y g_H m_st g_W m_rm m_fs g_M) H → va_D A (mo_W q6 qA qB qF qR qC qL qS qO qY qH qW qM cyI cyJ cyZ m_th m_o m_f m_r m_b m_a u_F u_R g_F g_R g_C g_L m_rl m_lf m_ov m_pl g_S g_O g_Y g_H m_st g_W m_rm m_fs g_M) → va_S A s.heap H locs → lv_has ls 5 [(0, .ref q6), (1, .int x1), (2, .int (3 : Int32))] → vc_X6_isBroken_s125_3 fu  m_o m_f m_r g_F g_R g_C m_ov g_M x1 y0 → cf_X6_isBroken_s125_3 fu  m_o m_f m_r g_F g_R g_C m_ov g_M x1 y0 = R → W p l e (headSpec wsX6_isBroken ({ frames := 2, cells := 0, slots := 0, locals := 46 })).room s m ([.ref q6, .int a0] : List Value).toArray below meth c H locs 0 0 (MQ below (mu_Q (some (.int R.2)) (dC, dI) kcl (mo_W q6 qA qB qF qR qC qL qS qO qY qH qW qM cyI cyJ cyZ m_th m_o m_f m_r m_b m_a u_F u_R g_F g_R g_C g_L m_rl m_lf m_ov m_pl g_S g_O g_Y g_H m_st g_W m_rm m_fs R.1) A) ([.ref q6, .int a0] : List Value).toArray s 0 0 A) (F0 m 125 ls [.int y0, .ref qM]) := by
    intro  g_M x1 y0 H locs ls hP hD hS hl hV hR
    unfold cf_X6_isBroken_s125_3 at hR
    unfold vc_X6_isBroken_s125_3 at hV
    refine lv_iconst (v := (0 : Int32)) hx hb dX6_isBroken_125 (by decide +kernel) ?_
    exact Ks126_3  g_M x1 (0 : Int32) y0 H locs ls hP hD hS (lv_sub hl [0, 1, 2] rfl) hV hR
  have Ks88_3 : ∀  (g_M : Nat → Int32) (x1 : Int32) (H : Heap) (locs : List Loc) (ls : Array Slot), va_P (dC, dI) kcl (mo_W q6 qA qB qF qR qC qL qS qO qY qH qW qM cyI cyJ cyZ m_th m_o m_f m_r m_b m_a u_F u_R g_F g_R g_C g_L m_rl m_lf m_ov m_pl g_S g_O g_Y g_H m_st g_W m_rm m_fs g_M) H → va_D A (mo_W q6 qA qB qF qR qC qL qS qO qY qH qW qM cyI cyJ cyZ m_th m_o m_f m_r m_b m_a u_F u_R g_F g_R g_C g_L m_rl m_lf m_ov m_pl g_S g_O g_Y g_H m_st g_W m_rm m_fs g_M) → va_S A s.heap H locs → lv_has ls 5 [(0, .ref q6), (1, .int x1), (2, .int (3 : Int32))] → vc_X6_isBroken_s88_3 fu  m_o m_f m_r g_F g_R g_C m_ov g_M x1 → cf_X6_isBroken_s88_3 fu  m_o m_f m_r g_F g_R g_C m_ov g_M x1 = R → W p l e (headSpec wsX6_isBroken ({ frames := 2, cells := 0, slots := 0, locals := 46 })).room s m ([.ref q6, .int a0] : List Value).toArray below meth c H locs 0 0 (MQ below (mu_Q (some (.int R.2)) (dC, dI) kcl (mo_W q6 qA qB qF qR qC qL qS qO qY qH qW qM cyI cyJ cyZ m_th m_o m_f m_r m_b m_a u_F u_R g_F g_R g_C g_L m_rl m_lf m_ov m_pl g_S g_O g_Y g_H m_st g_W m_rm m_fs R.1) A) ([.ref q6, .int a0] : List Value).toArray s 0 0 A) (F0 m 88 ls []) := by
    intro  g_M x1 H locs ls hP hD hS hl hV hR
    unfold cf_X6_isBroken_s88_3 at hR
    unfold vc_X6_isBroken_s88_3 at hV
    refine lv_iload_n hx hb dX6_isBroken_88 rfl (lv_at hl 2 rfl) ?_
    refine lv_iconst (v := (4 : Int32)) hx hb dX6_isBroken_89 (by decide +kernel) ?_
    refine lv_icmp_ge (tgt := 133) hx hb dX6_isBroken_90 (by decide) (fun c_0 => absurd c_0 (by decide +kernel)) (fun _ => ?_)
    refine lv_aload_n hx hb dX6_isBroken_93 rfl (lv_at hl 0 rfl) ?_
    refine va_get (D := (dC, dI)) (ci := 4) (v := .ref qM) (C := RX6) (T := TX6) (N := 25) hx hb hts h1_ hown hK hP 0 rfl rfl 24 (by decide) h3_ (fun _ h9 => h9) rfl dX6_isBroken_94 ?_
    refine lv_iload_n hx hb dX6_isBroken_97 rfl (lv_at hl 2 rfl) ?_
    refine lv_iload_n hx hb dX6_isBroken_98 rfl (lv_at hl 1 rfl) ?_
    refine lv_iconst (v := (2 : Int32)) hx hb dX6_isBroken_99 (by decide +kernel) ?_
    refine lv_icmp_ne (tgt := 125) hx hb dX6_isBroken_100 (by decide) (fun c_35 => ?_) (fun c_35 => ?_)
    · rw [if_neg c_35] at hR
      have hV := hV.2 c_35
      exact Ks125_3  g_M x1 (3 : Int32) H locs ls hP hD hS (lv_sub hl [0, 1, 2] rfl) hV hR
    · rw [if_pos c_35] at hR
      have hV := hV.1 c_35
      refine lv_iload_n hx hb dX6_isBroken_103 rfl (lv_at hl 2 rfl) ?_
      refine lv_aload_n hx hb dX6_isBroken_104 rfl (lv_at hl 0 rfl) ?_
      refine va_get (D := (dC, dI)) (ci := 4) (v := .int m_o) (C := RX6) (T := TX6) (N := 25) hx hb hts h1_ hown hK hP 0 rfl rfl 1 (by decide) h2_ (fun _ h9 => h9) rfl dX6_isBroken_105 ?_
      refine lv_icmp_ge (tgt := 125) hx hb dX6_isBroken_108 (by decide) (fun c_95 => ?_) (fun c_95 => ?_)
      · rw [if_pos c_95] at hR
        have hV := hV.1 c_95
        exact Ks125_3  g_M x1 (3 : Int32) H locs ls hP hD hS (lv_sub hl [0, 1, 2] rfl) hV hR
      · rw [if_neg c_95] at hR
        have hV := hV.2 c_95
        refine lv_aload_n hx hb dX6_isBroken_111 rfl (lv_at hl 0 rfl) ?_
        refine va_get (D := (dC, dI)) (ci := 4) (v := .ref qC) (C := RX6) (T := TX6) (N := 25) hx hb hts h1_ hown hK hP 0 rfl rfl 10 (by decide) h4_ (fun _ h9 => h9) rfl dX6_isBroken_112 ?_
        refine lv_iload_n hx hb dX6_isBroken_115 rfl (lv_at hl 2 rfl) ?_
        refine va_iald hx hb hK hP 5 0 rfl rfl (by unfold vp_in; decide +kernel) dX6_isBroken_116 ?_
        refine lv_iconst (v := (1 : Int32)) hx hb dX6_isBroken_117 (by decide +kernel) ?_
        refine lv_icmp_ne (tgt := 125) hx hb dX6_isBroken_118 (by decide) (fun c_96 => ?_) (fun c_96 => ?_)
        · rw [if_neg c_96] at hR
          have hV := hV.2 c_96
          exact Ks125_3  g_M x1 (3 : Int32) H locs ls hP hD hS (lv_sub hl [0, 1, 2] rfl) hV hR
        · rw [if_pos c_96] at hR
          have hV := hV.1 c_96
          refine lv_iconst (v := (1 : Int32)) hx hb dX6_isBroken_121 (by decide +kernel) ?_
          refine lv_goto (tgt := 126) hx hb dX6_isBroken_122 (by decide) ?_
          exact Ks126_3  g_M x1 (1 : Int32) (3 : Int32) H locs ls hP hD hS (lv_sub hl [0, 1, 2] rfl) hV hR
  have Ks126_2 : ∀  (g_M : Nat → Int32) (x1 : Int32) (y0 : Int32) (y1 : Int32) (H : Heap) (locs : List Loc) (ls : Array Slot), va_P (dC, dI) kcl (mo_W q6 qA qB qF qR qC qL qS qO qY qH qW qM cyI cyJ cyZ m_th m_o m_f m_r m_b m_a u_F u_R g_F g_R g_C g_L m_rl m_lf m_ov m_pl g_S g_O g_Y g_H m_st g_W m_rm m_fs g_M) H → va_D A (mo_W q6 qA qB qF qR qC qL qS qO qY qH qW qM cyI cyJ cyZ m_th m_o m_f m_r m_b m_a u_F u_R g_F g_R g_C g_L m_rl m_lf m_ov m_pl g_S g_O g_Y g_H m_st g_W m_rm m_fs g_M) → va_S A s.heap H locs → lv_has ls 5 [(0, .ref q6), (1, .int x1), (2, .int (2 : Int32))] → vc_X6_isBroken_s126_2 fu  m_o m_f m_r g_F g_R g_C m_ov g_M x1 y0 y1 → cf_X6_isBroken_s126_2 fu  m_o m_f m_r g_F g_R g_C m_ov g_M x1 y0 y1 = R → W p l e (headSpec wsX6_isBroken ({ frames := 2, cells := 0, slots := 0, locals := 46 })).room s m ([.ref q6, .int a0] : List Value).toArray below meth c H locs 0 0 (MQ below (mu_Q (some (.int R.2)) (dC, dI) kcl (mo_W q6 qA qB qF qR qC qL qS qO qY qH qW qM cyI cyJ cyZ m_th m_o m_f m_r m_b m_a u_F u_R g_F g_R g_C g_L m_rl m_lf m_ov m_pl g_S g_O g_Y g_H m_st g_W m_rm m_fs R.1) A) ([.ref q6, .int a0] : List Value).toArray s 0 0 A) (F0 m 126 ls [.int y0, .int y1, .ref qM]) := by
    intro  g_M x1 y0 y1 H locs ls hP hD hS hl hV hR
    unfold cf_X6_isBroken_s126_2 at hR
    unfold vc_X6_isBroken_s126_2 at hV
    obtain ⟨hi34, hV⟩ := hV
    refine va_zast hx hb hK hP hD hS 12 2 rfl rfl hi34 dX6_isBroken_126 (fun H locs hP hD hS => ?_)
    have hP : va_P (dC, dI) kcl (mo_W q6 qA qB qF qR qC qL qS qO qY qH qW qM cyI cyJ cyZ m_th m_o m_f m_r m_b m_a u_F u_R g_F g_R g_C g_L m_rl m_lf m_ov m_pl g_S g_O g_Y g_H m_st g_W m_rm m_fs (upd g_M (y1).toNatClampNeg (vp_nar .boolean y0))) H := hP
    have hD : va_D A (mo_W q6 qA qB qF qR qC qL qS qO qY qH qW qM cyI cyJ cyZ m_th m_o m_f m_r m_b m_a u_F u_R g_F g_R g_C g_L m_rl m_lf m_ov m_pl g_S g_O g_Y g_H m_st g_W m_rm m_fs (upd g_M (y1).toNatClampNeg (vp_nar .boolean y0))) := hD
    refine lv_iinc (v := (3 : Int32)) (lv' := [(2, .int (3 : Int32)), (0, .ref q6), (1, .int x1)]) hx hb dX6_isBroken_127 hl (k := 2) rfl (by decide +kernel) (by decide) rfl (fun ls hl => ?_)
    refine lv_goto (tgt := 88) hx hb dX6_isBroken_130 (by decide) ?_
    exact Ks88_3  (upd g_M (y1).toNatClampNeg (vp_nar .boolean y0)) x1 H locs ls hP hD hS (lv_sub hl [1, 2, 0] rfl) hV hR
  have Ks125_2 : ∀  (g_M : Nat → Int32) (x1 : Int32) (y0 : Int32) (H : Heap) (locs : List Loc) (ls : Array Slot), va_P (dC, dI) kcl (mo_W q6 qA qB qF qR qC qL qS qO qY qH qW qM cyI cyJ cyZ m_th m_o m_f m_r m_b m_a u_F u_R g_F g_R g_C g_L m_rl m_lf m_ov m_pl g_S g_O g_Y g_H m_st g_W m_rm m_fs g_M) H → va_D A (mo_W q6 qA qB qF qR qC qL qS qO qY qH qW qM cyI cyJ cyZ m_th m_o m_f m_r m_b m_a u_F u_R g_F g_R g_C g_L m_rl m_lf m_ov m_pl g_S g_O g_Y g_H m_st g_W m_rm m_fs g_M) → va_S A s.heap H locs → lv_has ls 5 [(0, .ref q6), (1, .int x1), (2, .int (2 : Int32))] → vc_X6_isBroken_s125_2 fu  m_o m_f m_r g_F g_R g_C m_ov g_M x1 y0 → cf_X6_isBroken_s125_2 fu  m_o m_f m_r g_F g_R g_C m_ov g_M x1 y0 = R → W p l e (headSpec wsX6_isBroken ({ frames := 2, cells := 0, slots := 0, locals := 46 })).room s m ([.ref q6, .int a0] : List Value).toArray below meth c H locs 0 0 (MQ below (mu_Q (some (.int R.2)) (dC, dI) kcl (mo_W q6 qA qB qF qR qC qL qS qO qY qH qW qM cyI cyJ cyZ m_th m_o m_f m_r m_b m_a u_F u_R g_F g_R g_C g_L m_rl m_lf m_ov m_pl g_S g_O g_Y g_H m_st g_W m_rm m_fs R.1) A) ([.ref q6, .int a0] : List Value).toArray s 0 0 A) (F0 m 125 ls [.int y0, .ref qM]) := by
    intro  g_M x1 y0 H locs ls hP hD hS hl hV hR
    unfold cf_X6_isBroken_s125_2 at hR
    unfold vc_X6_isBroken_s125_2 at hV
    refine lv_iconst (v := (0 : Int32)) hx hb dX6_isBroken_125 (by decide +kernel) ?_
    exact Ks126_2  g_M x1 (0 : Int32) y0 H locs ls hP hD hS (lv_sub hl [0, 1, 2] rfl) hV hR
  have Ks88_2 : ∀  (g_M : Nat → Int32) (x1 : Int32) (H : Heap) (locs : List Loc) (ls : Array Slot), va_P (dC, dI) kcl (mo_W q6 qA qB qF qR qC qL qS qO qY qH qW qM cyI cyJ cyZ m_th m_o m_f m_r m_b m_a u_F u_R g_F g_R g_C g_L m_rl m_lf m_ov m_pl g_S g_O g_Y g_H m_st g_W m_rm m_fs g_M) H → va_D A (mo_W q6 qA qB qF qR qC qL qS qO qY qH qW qM cyI cyJ cyZ m_th m_o m_f m_r m_b m_a u_F u_R g_F g_R g_C g_L m_rl m_lf m_ov m_pl g_S g_O g_Y g_H m_st g_W m_rm m_fs g_M) → va_S A s.heap H locs → lv_has ls 5 [(0, .ref q6), (1, .int x1), (2, .int (2 : Int32))] → vc_X6_isBroken_s88_2 fu  m_o m_f m_r g_F g_R g_C m_ov g_M x1 → cf_X6_isBroken_s88_2 fu  m_o m_f m_r g_F g_R g_C m_ov g_M x1 = R → W p l e (headSpec wsX6_isBroken ({ frames := 2, cells := 0, slots := 0, locals := 46 })).room s m ([.ref q6, .int a0] : List Value).toArray below meth c H locs 0 0 (MQ below (mu_Q (some (.int R.2)) (dC, dI) kcl (mo_W q6 qA qB qF qR qC qL qS qO qY qH qW qM cyI cyJ cyZ m_th m_o m_f m_r m_b m_a u_F u_R g_F g_R g_C g_L m_rl m_lf m_ov m_pl g_S g_O g_Y g_H m_st g_W m_rm m_fs R.1) A) ([.ref q6, .int a0] : List Value).toArray s 0 0 A) (F0 m 88 ls []) := by
    intro  g_M x1 H locs ls hP hD hS hl hV hR
    unfold cf_X6_isBroken_s88_2 at hR
    unfold vc_X6_isBroken_s88_2 at hV
    refine lv_iload_n hx hb dX6_isBroken_88 rfl (lv_at hl 2 rfl) ?_
    refine lv_iconst (v := (4 : Int32)) hx hb dX6_isBroken_89 (by decide +kernel) ?_
    refine lv_icmp_ge (tgt := 133) hx hb dX6_isBroken_90 (by decide) (fun c_0 => absurd c_0 (by decide +kernel)) (fun _ => ?_)
    refine lv_aload_n hx hb dX6_isBroken_93 rfl (lv_at hl 0 rfl) ?_
    refine va_get (D := (dC, dI)) (ci := 4) (v := .ref qM) (C := RX6) (T := TX6) (N := 25) hx hb hts h1_ hown hK hP 0 rfl rfl 24 (by decide) h3_ (fun _ h9 => h9) rfl dX6_isBroken_94 ?_
    refine lv_iload_n hx hb dX6_isBroken_97 rfl (lv_at hl 2 rfl) ?_
    refine lv_iload_n hx hb dX6_isBroken_98 rfl (lv_at hl 1 rfl) ?_
    refine lv_iconst (v := (2 : Int32)) hx hb dX6_isBroken_99 (by decide +kernel) ?_
    refine lv_icmp_ne (tgt := 125) hx hb dX6_isBroken_100 (by decide) (fun c_33 => ?_) (fun c_33 => ?_)
    · rw [if_neg c_33] at hR
      have hV := hV.2 c_33
      exact Ks125_2  g_M x1 (2 : Int32) H locs ls hP hD hS (lv_sub hl [0, 1, 2] rfl) hV hR
    · rw [if_pos c_33] at hR
      have hV := hV.1 c_33
      refine lv_iload_n hx hb dX6_isBroken_103 rfl (lv_at hl 2 rfl) ?_
      refine lv_aload_n hx hb dX6_isBroken_104 rfl (lv_at hl 0 rfl) ?_
      refine va_get (D := (dC, dI)) (ci := 4) (v := .int m_o) (C := RX6) (T := TX6) (N := 25) hx hb hts h1_ hown hK hP 0 rfl rfl 1 (by decide) h2_ (fun _ h9 => h9) rfl dX6_isBroken_105 ?_
      refine lv_icmp_ge (tgt := 125) hx hb dX6_isBroken_108 (by decide) (fun c_97 => ?_) (fun c_97 => ?_)
      · rw [if_pos c_97] at hR
        have hV := hV.1 c_97
        exact Ks125_2  g_M x1 (2 : Int32) H locs ls hP hD hS (lv_sub hl [0, 1, 2] rfl) hV hR
      · rw [if_neg c_97] at hR
        have hV := hV.2 c_97
        refine lv_aload_n hx hb dX6_isBroken_111 rfl (lv_at hl 0 rfl) ?_
        refine va_get (D := (dC, dI)) (ci := 4) (v := .ref qC) (C := RX6) (T := TX6) (N := 25) hx hb hts h1_ hown hK hP 0 rfl rfl 10 (by decide) h4_ (fun _ h9 => h9) rfl dX6_isBroken_112 ?_
        refine lv_iload_n hx hb dX6_isBroken_115 rfl (lv_at hl 2 rfl) ?_
        refine va_iald hx hb hK hP 5 0 rfl rfl (by unfold vp_in; decide +kernel) dX6_isBroken_116 ?_
        refine lv_iconst (v := (1 : Int32)) hx hb dX6_isBroken_117 (by decide +kernel) ?_
        refine lv_icmp_ne (tgt := 125) hx hb dX6_isBroken_118 (by decide) (fun c_98 => ?_) (fun c_98 => ?_)
        · rw [if_neg c_98] at hR
          have hV := hV.2 c_98
          exact Ks125_2  g_M x1 (2 : Int32) H locs ls hP hD hS (lv_sub hl [0, 1, 2] rfl) hV hR
        · rw [if_pos c_98] at hR
          have hV := hV.1 c_98
          refine lv_iconst (v := (1 : Int32)) hx hb dX6_isBroken_121 (by decide +kernel) ?_
          refine lv_goto (tgt := 126) hx hb dX6_isBroken_122 (by decide) ?_
          exact Ks126_2  g_M x1 (1 : Int32) (2 : Int32) H locs ls hP hD hS (lv_sub hl [0, 1, 2] rfl) hV hR
  have Ks126_1 : ∀  (g_M : Nat → Int32) (x1 : Int32) (y0 : Int32) (y1 : Int32) (H : Heap) (locs : List Loc) (ls : Array Slot), va_P (dC, dI) kcl (mo_W q6 qA qB qF qR qC qL qS qO qY qH qW qM cyI cyJ cyZ m_th m_o m_f m_r m_b m_a u_F u_R g_F g_R g_C g_L m_rl m_lf m_ov m_pl g_S g_O g_Y g_H m_st g_W m_rm m_fs g_M) H → va_D A (mo_W q6 qA qB qF qR qC qL qS qO qY qH qW qM cyI cyJ cyZ m_th m_o m_f m_r m_b m_a u_F u_R g_F g_R g_C g_L m_rl m_lf m_ov m_pl g_S g_O g_Y g_H m_st g_W m_rm m_fs g_M) → va_S A s.heap H locs → lv_has ls 5 [(0, .ref q6), (1, .int x1), (2, .int (1 : Int32))] → vc_X6_isBroken_s126_1 fu  m_o m_f m_r g_F g_R g_C m_ov g_M x1 y0 y1 → cf_X6_isBroken_s126_1 fu  m_o m_f m_r g_F g_R g_C m_ov g_M x1 y0 y1 = R → W p l e (headSpec wsX6_isBroken ({ frames := 2, cells := 0, slots := 0, locals := 46 })).room s m ([.ref q6, .int a0] : List Value).toArray below meth c H locs 0 0 (MQ below (mu_Q (some (.int R.2)) (dC, dI) kcl (mo_W q6 qA qB qF qR qC qL qS qO qY qH qW qM cyI cyJ cyZ m_th m_o m_f m_r m_b m_a u_F u_R g_F g_R g_C g_L m_rl m_lf m_ov m_pl g_S g_O g_Y g_H m_st g_W m_rm m_fs R.1) A) ([.ref q6, .int a0] : List Value).toArray s 0 0 A) (F0 m 126 ls [.int y0, .int y1, .ref qM]) := by
    intro  g_M x1 y0 y1 H locs ls hP hD hS hl hV hR
    unfold cf_X6_isBroken_s126_1 at hR
    unfold vc_X6_isBroken_s126_1 at hV
    obtain ⟨hi32, hV⟩ := hV
    refine va_zast hx hb hK hP hD hS 12 2 rfl rfl hi32 dX6_isBroken_126 (fun H locs hP hD hS => ?_)
    have hP : va_P (dC, dI) kcl (mo_W q6 qA qB qF qR qC qL qS qO qY qH qW qM cyI cyJ cyZ m_th m_o m_f m_r m_b m_a u_F u_R g_F g_R g_C g_L m_rl m_lf m_ov m_pl g_S g_O g_Y g_H m_st g_W m_rm m_fs (upd g_M (y1).toNatClampNeg (vp_nar .boolean y0))) H := hP
    have hD : va_D A (mo_W q6 qA qB qF qR qC qL qS qO qY qH qW qM cyI cyJ cyZ m_th m_o m_f m_r m_b m_a u_F u_R g_F g_R g_C g_L m_rl m_lf m_ov m_pl g_S g_O g_Y g_H m_st g_W m_rm m_fs (upd g_M (y1).toNatClampNeg (vp_nar .boolean y0))) := hD
    refine lv_iinc (v := (2 : Int32)) (lv' := [(2, .int (2 : Int32)), (0, .ref q6), (1, .int x1)]) hx hb dX6_isBroken_127 hl (k := 2) rfl (by decide +kernel) (by decide) rfl (fun ls hl => ?_)
    refine lv_goto (tgt := 88) hx hb dX6_isBroken_130 (by decide) ?_
    exact Ks88_2  (upd g_M (y1).toNatClampNeg (vp_nar .boolean y0)) x1 H locs ls hP hD hS (lv_sub hl [1, 2, 0] rfl) hV hR
  have Ks125_1 : ∀  (g_M : Nat → Int32) (x1 : Int32) (y0 : Int32) (H : Heap) (locs : List Loc) (ls : Array Slot), va_P (dC, dI) kcl (mo_W q6 qA qB qF qR qC qL qS qO qY qH qW qM cyI cyJ cyZ m_th m_o m_f m_r m_b m_a u_F u_R g_F g_R g_C g_L m_rl m_lf m_ov m_pl g_S g_O g_Y g_H m_st g_W m_rm m_fs g_M) H → va_D A (mo_W q6 qA qB qF qR qC qL qS qO qY qH qW qM cyI cyJ cyZ m_th m_o m_f m_r m_b m_a u_F u_R g_F g_R g_C g_L m_rl m_lf m_ov m_pl g_S g_O g_Y g_H m_st g_W m_rm m_fs g_M) → va_S A s.heap H locs → lv_has ls 5 [(0, .ref q6), (1, .int x1), (2, .int (1 : Int32))] → vc_X6_isBroken_s125_1 fu  m_o m_f m_r g_F g_R g_C m_ov g_M x1 y0 → cf_X6_isBroken_s125_1 fu  m_o m_f m_r g_F g_R g_C m_ov g_M x1 y0 = R → W p l e (headSpec wsX6_isBroken ({ frames := 2, cells := 0, slots := 0, locals := 46 })).room s m ([.ref q6, .int a0] : List Value).toArray below meth c H locs 0 0 (MQ below (mu_Q (some (.int R.2)) (dC, dI) kcl (mo_W q6 qA qB qF qR qC qL qS qO qY qH qW qM cyI cyJ cyZ m_th m_o m_f m_r m_b m_a u_F u_R g_F g_R g_C g_L m_rl m_lf m_ov m_pl g_S g_O g_Y g_H m_st g_W m_rm m_fs R.1) A) ([.ref q6, .int a0] : List Value).toArray s 0 0 A) (F0 m 125 ls [.int y0, .ref qM]) := by
    intro  g_M x1 y0 H locs ls hP hD hS hl hV hR
    unfold cf_X6_isBroken_s125_1 at hR
    unfold vc_X6_isBroken_s125_1 at hV
    refine lv_iconst (v := (0 : Int32)) hx hb dX6_isBroken_125 (by decide +kernel) ?_
    exact Ks126_1  g_M x1 (0 : Int32) y0 H locs ls hP hD hS (lv_sub hl [0, 1, 2] rfl) hV hR
  have Ks88_1 : ∀  (g_M : Nat → Int32) (x1 : Int32) (H : Heap) (locs : List Loc) (ls : Array Slot), va_P (dC, dI) kcl (mo_W q6 qA qB qF qR qC qL qS qO qY qH qW qM cyI cyJ cyZ m_th m_o m_f m_r m_b m_a u_F u_R g_F g_R g_C g_L m_rl m_lf m_ov m_pl g_S g_O g_Y g_H m_st g_W m_rm m_fs g_M) H → va_D A (mo_W q6 qA qB qF qR qC qL qS qO qY qH qW qM cyI cyJ cyZ m_th m_o m_f m_r m_b m_a u_F u_R g_F g_R g_C g_L m_rl m_lf m_ov m_pl g_S g_O g_Y g_H m_st g_W m_rm m_fs g_M) → va_S A s.heap H locs → lv_has ls 5 [(0, .ref q6), (1, .int x1), (2, .int (1 : Int32))] → vc_X6_isBroken_s88_1 fu  m_o m_f m_r g_F g_R g_C m_ov g_M x1 → cf_X6_isBroken_s88_1 fu  m_o m_f m_r g_F g_R g_C m_ov g_M x1 = R → W p l e (headSpec wsX6_isBroken ({ frames := 2, cells := 0, slots := 0, locals := 46 })).room s m ([.ref q6, .int a0] : List Value).toArray below meth c H locs 0 0 (MQ below (mu_Q (some (.int R.2)) (dC, dI) kcl (mo_W q6 qA qB qF qR qC qL qS qO qY qH qW qM cyI cyJ cyZ m_th m_o m_f m_r m_b m_a u_F u_R g_F g_R g_C g_L m_rl m_lf m_ov m_pl g_S g_O g_Y g_H m_st g_W m_rm m_fs R.1) A) ([.ref q6, .int a0] : List Value).toArray s 0 0 A) (F0 m 88 ls []) := by
    intro  g_M x1 H locs ls hP hD hS hl hV hR
    unfold cf_X6_isBroken_s88_1 at hR
    unfold vc_X6_isBroken_s88_1 at hV
    refine lv_iload_n hx hb dX6_isBroken_88 rfl (lv_at hl 2 rfl) ?_
    refine lv_iconst (v := (4 : Int32)) hx hb dX6_isBroken_89 (by decide +kernel) ?_
    refine lv_icmp_ge (tgt := 133) hx hb dX6_isBroken_90 (by decide) (fun c_0 => absurd c_0 (by decide +kernel)) (fun _ => ?_)
    refine lv_aload_n hx hb dX6_isBroken_93 rfl (lv_at hl 0 rfl) ?_
    refine va_get (D := (dC, dI)) (ci := 4) (v := .ref qM) (C := RX6) (T := TX6) (N := 25) hx hb hts h1_ hown hK hP 0 rfl rfl 24 (by decide) h3_ (fun _ h9 => h9) rfl dX6_isBroken_94 ?_
    refine lv_iload_n hx hb dX6_isBroken_97 rfl (lv_at hl 2 rfl) ?_
    refine lv_iload_n hx hb dX6_isBroken_98 rfl (lv_at hl 1 rfl) ?_
    refine lv_iconst (v := (2 : Int32)) hx hb dX6_isBroken_99 (by decide +kernel) ?_
    refine lv_icmp_ne (tgt := 125) hx hb dX6_isBroken_100 (by decide) (fun c_31 => ?_) (fun c_31 => ?_)
    · rw [if_neg c_31] at hR
      have hV := hV.2 c_31
      exact Ks125_1  g_M x1 (1 : Int32) H locs ls hP hD hS (lv_sub hl [0, 1, 2] rfl) hV hR
    · rw [if_pos c_31] at hR
      have hV := hV.1 c_31
      refine lv_iload_n hx hb dX6_isBroken_103 rfl (lv_at hl 2 rfl) ?_
      refine lv_aload_n hx hb dX6_isBroken_104 rfl (lv_at hl 0 rfl) ?_
      refine va_get (D := (dC, dI)) (ci := 4) (v := .int m_o) (C := RX6) (T := TX6) (N := 25) hx hb hts h1_ hown hK hP 0 rfl rfl 1 (by decide) h2_ (fun _ h9 => h9) rfl dX6_isBroken_105 ?_
      refine lv_icmp_ge (tgt := 125) hx hb dX6_isBroken_108 (by decide) (fun c_99 => ?_) (fun c_99 => ?_)
      · rw [if_pos c_99] at hR
        have hV := hV.1 c_99
        exact Ks125_1  g_M x1 (1 : Int32) H locs ls hP hD hS (lv_sub hl [0, 1, 2] rfl) hV hR
      · rw [if_neg c_99] at hR
        have hV := hV.2 c_99
        refine lv_aload_n hx hb dX6_isBroken_111 rfl (lv_at hl 0 rfl) ?_
        refine va_get (D := (dC, dI)) (ci := 4) (v := .ref qC) (C := RX6) (T := TX6) (N := 25) hx hb hts h1_ hown hK hP 0 rfl rfl 10 (by decide) h4_ (fun _ h9 => h9) rfl dX6_isBroken_112 ?_
        refine lv_iload_n hx hb dX6_isBroken_115 rfl (lv_at hl 2 rfl) ?_
        refine va_iald hx hb hK hP 5 0 rfl rfl (by unfold vp_in; decide +kernel) dX6_isBroken_116 ?_
        refine lv_iconst (v := (1 : Int32)) hx hb dX6_isBroken_117 (by decide +kernel) ?_
        refine lv_icmp_ne (tgt := 125) hx hb dX6_isBroken_118 (by decide) (fun c_100 => ?_) (fun c_100 => ?_)
        · rw [if_neg c_100] at hR
          have hV := hV.2 c_100
          exact Ks125_1  g_M x1 (1 : Int32) H locs ls hP hD hS (lv_sub hl [0, 1, 2] rfl) hV hR
        · rw [if_pos c_100] at hR
          have hV := hV.1 c_100
          refine lv_iconst (v := (1 : Int32)) hx hb dX6_isBroken_121 (by decide +kernel) ?_
          refine lv_goto (tgt := 126) hx hb dX6_isBroken_122 (by decide) ?_
          exact Ks126_1  g_M x1 (1 : Int32) (1 : Int32) H locs ls hP hD hS (lv_sub hl [0, 1, 2] rfl) hV hR
  have Ks126_0 : ∀  (g_M : Nat → Int32) (x1 : Int32) (y0 : Int32) (y1 : Int32) (H : Heap) (locs : List Loc) (ls : Array Slot), va_P (dC, dI) kcl (mo_W q6 qA qB qF qR qC qL qS qO qY qH qW qM cyI cyJ cyZ m_th m_o m_f m_r m_b m_a u_F u_R g_F g_R g_C g_L m_rl m_lf m_ov m_pl g_S g_O g_Y g_H m_st g_W m_rm m_fs g_M) H → va_D A (mo_W q6 qA qB qF qR qC qL qS qO qY qH qW qM cyI cyJ cyZ m_th m_o m_f m_r m_b m_a u_F u_R g_F g_R g_C g_L m_rl m_lf m_ov m_pl g_S g_O g_Y g_H m_st g_W m_rm m_fs g_M) → va_S A s.heap H locs → lv_has ls 5 [(0, .ref q6), (1, .int x1), (2, .int (0 : Int32))] → vc_X6_isBroken_s126_0 fu  m_o m_f m_r g_F g_R g_C m_ov g_M x1 y0 y1 → cf_X6_isBroken_s126_0 fu  m_o m_f m_r g_F g_R g_C m_ov g_M x1 y0 y1 = R → W p l e (headSpec wsX6_isBroken ({ frames := 2, cells := 0, slots := 0, locals := 46 })).room s m ([.ref q6, .int a0] : List Value).toArray below meth c H locs 0 0 (MQ below (mu_Q (some (.int R.2)) (dC, dI) kcl (mo_W q6 qA qB qF qR qC qL qS qO qY qH qW qM cyI cyJ cyZ m_th m_o m_f m_r m_b m_a u_F u_R g_F g_R g_C g_L m_rl m_lf m_ov m_pl g_S g_O g_Y g_H m_st g_W m_rm m_fs R.1) A) ([.ref q6, .int a0] : List Value).toArray s 0 0 A) (F0 m 126 ls [.int y0, .int y1, .ref qM]) := by
    intro  g_M x1 y0 y1 H locs ls hP hD hS hl hV hR
    unfold cf_X6_isBroken_s126_0 at hR
    unfold vc_X6_isBroken_s126_0 at hV
    obtain ⟨hi30, hV⟩ := hV
    refine va_zast hx hb hK hP hD hS 12 2 rfl rfl hi30 dX6_isBroken_126 (fun H locs hP hD hS => ?_)
    have hP : va_P (dC, dI) kcl (mo_W q6 qA qB qF qR qC qL qS qO qY qH qW qM cyI cyJ cyZ m_th m_o m_f m_r m_b m_a u_F u_R g_F g_R g_C g_L m_rl m_lf m_ov m_pl g_S g_O g_Y g_H m_st g_W m_rm m_fs (upd g_M (y1).toNatClampNeg (vp_nar .boolean y0))) H := hP
    have hD : va_D A (mo_W q6 qA qB qF qR qC qL qS qO qY qH qW qM cyI cyJ cyZ m_th m_o m_f m_r m_b m_a u_F u_R g_F g_R g_C g_L m_rl m_lf m_ov m_pl g_S g_O g_Y g_H m_st g_W m_rm m_fs (upd g_M (y1).toNatClampNeg (vp_nar .boolean y0))) := hD
    refine lv_iinc (v := (1 : Int32)) (lv' := [(2, .int (1 : Int32)), (0, .ref q6), (1, .int x1)]) hx hb dX6_isBroken_127 hl (k := 2) rfl (by decide +kernel) (by decide) rfl (fun ls hl => ?_)
    refine lv_goto (tgt := 88) hx hb dX6_isBroken_130 (by decide) ?_
    exact Ks88_1  (upd g_M (y1).toNatClampNeg (vp_nar .boolean y0)) x1 H locs ls hP hD hS (lv_sub hl [1, 2, 0] rfl) hV hR
  have Ks125_0 : ∀  (g_M : Nat → Int32) (x1 : Int32) (y0 : Int32) (H : Heap) (locs : List Loc) (ls : Array Slot), va_P (dC, dI) kcl (mo_W q6 qA qB qF qR qC qL qS qO qY qH qW qM cyI cyJ cyZ m_th m_o m_f m_r m_b m_a u_F u_R g_F g_R g_C g_L m_rl m_lf m_ov m_pl g_S g_O g_Y g_H m_st g_W m_rm m_fs g_M) H → va_D A (mo_W q6 qA qB qF qR qC qL qS qO qY qH qW qM cyI cyJ cyZ m_th m_o m_f m_r m_b m_a u_F u_R g_F g_R g_C g_L m_rl m_lf m_ov m_pl g_S g_O g_Y g_H m_st g_W m_rm m_fs g_M) → va_S A s.heap H locs → lv_has ls 5 [(0, .ref q6), (1, .int x1), (2, .int (0 : Int32))] → vc_X6_isBroken_s125_0 fu  m_o m_f m_r g_F g_R g_C m_ov g_M x1 y0 → cf_X6_isBroken_s125_0 fu  m_o m_f m_r g_F g_R g_C m_ov g_M x1 y0 = R → W p l e (headSpec wsX6_isBroken ({ frames := 2, cells := 0, slots := 0, locals := 46 })).room s m ([.ref q6, .int a0] : List Value).toArray below meth c H locs 0 0 (MQ below (mu_Q (some (.int R.2)) (dC, dI) kcl (mo_W q6 qA qB qF qR qC qL qS qO qY qH qW qM cyI cyJ cyZ m_th m_o m_f m_r m_b m_a u_F u_R g_F g_R g_C g_L m_rl m_lf m_ov m_pl g_S g_O g_Y g_H m_st g_W m_rm m_fs R.1) A) ([.ref q6, .int a0] : List Value).toArray s 0 0 A) (F0 m 125 ls [.int y0, .ref qM]) := by
    intro  g_M x1 y0 H locs ls hP hD hS hl hV hR
    unfold cf_X6_isBroken_s125_0 at hR
    unfold vc_X6_isBroken_s125_0 at hV
    refine lv_iconst (v := (0 : Int32)) hx hb dX6_isBroken_125 (by decide +kernel) ?_
    exact Ks126_0  g_M x1 (0 : Int32) y0 H locs ls hP hD hS (lv_sub hl [0, 1, 2] rfl) hV hR
  have Ks88_0 : ∀  (g_M : Nat → Int32) (x1 : Int32) (H : Heap) (locs : List Loc) (ls : Array Slot), va_P (dC, dI) kcl (mo_W q6 qA qB qF qR qC qL qS qO qY qH qW qM cyI cyJ cyZ m_th m_o m_f m_r m_b m_a u_F u_R g_F g_R g_C g_L m_rl m_lf m_ov m_pl g_S g_O g_Y g_H m_st g_W m_rm m_fs g_M) H → va_D A (mo_W q6 qA qB qF qR qC qL qS qO qY qH qW qM cyI cyJ cyZ m_th m_o m_f m_r m_b m_a u_F u_R g_F g_R g_C g_L m_rl m_lf m_ov m_pl g_S g_O g_Y g_H m_st g_W m_rm m_fs g_M) → va_S A s.heap H locs → lv_has ls 5 [(0, .ref q6), (1, .int x1), (2, .int (0 : Int32))] → vc_X6_isBroken_s88_0 fu  m_o m_f m_r g_F g_R g_C m_ov g_M x1 → cf_X6_isBroken_s88_0 fu  m_o m_f m_r g_F g_R g_C m_ov g_M x1 = R → W p l e (headSpec wsX6_isBroken ({ frames := 2, cells := 0, slots := 0, locals := 46 })).room s m ([.ref q6, .int a0] : List Value).toArray below meth c H locs 0 0 (MQ below (mu_Q (some (.int R.2)) (dC, dI) kcl (mo_W q6 qA qB qF qR qC qL qS qO qY qH qW qM cyI cyJ cyZ m_th m_o m_f m_r m_b m_a u_F u_R g_F g_R g_C g_L m_rl m_lf m_ov m_pl g_S g_O g_Y g_H m_st g_W m_rm m_fs R.1) A) ([.ref q6, .int a0] : List Value).toArray s 0 0 A) (F0 m 88 ls []) := by
    intro  g_M x1 H locs ls hP hD hS hl hV hR
    unfold cf_X6_isBroken_s88_0 at hR
    unfold vc_X6_isBroken_s88_0 at hV
    refine lv_iload_n hx hb dX6_isBroken_88 rfl (lv_at hl 2 rfl) ?_
    refine lv_iconst (v := (4 : Int32)) hx hb dX6_isBroken_89 (by decide +kernel) ?_
    refine lv_icmp_ge (tgt := 133) hx hb dX6_isBroken_90 (by decide) (fun c_0 => absurd c_0 (by decide +kernel)) (fun _ => ?_)
    refine lv_aload_n hx hb dX6_isBroken_93 rfl (lv_at hl 0 rfl) ?_
    refine va_get (D := (dC, dI)) (ci := 4) (v := .ref qM) (C := RX6) (T := TX6) (N := 25) hx hb hts h1_ hown hK hP 0 rfl rfl 24 (by decide) h3_ (fun _ h9 => h9) rfl dX6_isBroken_94 ?_
    refine lv_iload_n hx hb dX6_isBroken_97 rfl (lv_at hl 2 rfl) ?_
    refine lv_iload_n hx hb dX6_isBroken_98 rfl (lv_at hl 1 rfl) ?_
    refine lv_iconst (v := (2 : Int32)) hx hb dX6_isBroken_99 (by decide +kernel) ?_
    refine lv_icmp_ne (tgt := 125) hx hb dX6_isBroken_100 (by decide) (fun c_29 => ?_) (fun c_29 => ?_)
    · rw [if_neg c_29] at hR
      have hV := hV.2 c_29
      exact Ks125_0  g_M x1 (0 : Int32) H locs ls hP hD hS (lv_sub hl [0, 1, 2] rfl) hV hR
    · rw [if_pos c_29] at hR
      have hV := hV.1 c_29
      refine lv_iload_n hx hb dX6_isBroken_103 rfl (lv_at hl 2 rfl) ?_
      refine lv_aload_n hx hb dX6_isBroken_104 rfl (lv_at hl 0 rfl) ?_
      refine va_get (D := (dC, dI)) (ci := 4) (v := .int m_o) (C := RX6) (T := TX6) (N := 25) hx hb hts h1_ hown hK hP 0 rfl rfl 1 (by decide) h2_ (fun _ h9 => h9) rfl dX6_isBroken_105 ?_
      refine lv_icmp_ge (tgt := 125) hx hb dX6_isBroken_108 (by decide) (fun c_101 => ?_) (fun c_101 => ?_)
      · rw [if_pos c_101] at hR
        have hV := hV.1 c_101
        exact Ks125_0  g_M x1 (0 : Int32) H locs ls hP hD hS (lv_sub hl [0, 1, 2] rfl) hV hR
      · rw [if_neg c_101] at hR
        have hV := hV.2 c_101
        refine lv_aload_n hx hb dX6_isBroken_111 rfl (lv_at hl 0 rfl) ?_
        refine va_get (D := (dC, dI)) (ci := 4) (v := .ref qC) (C := RX6) (T := TX6) (N := 25) hx hb hts h1_ hown hK hP 0 rfl rfl 10 (by decide) h4_ (fun _ h9 => h9) rfl dX6_isBroken_112 ?_
        refine lv_iload_n hx hb dX6_isBroken_115 rfl (lv_at hl 2 rfl) ?_
        refine va_iald hx hb hK hP 5 0 rfl rfl (by unfold vp_in; decide +kernel) dX6_isBroken_116 ?_
        refine lv_iconst (v := (1 : Int32)) hx hb dX6_isBroken_117 (by decide +kernel) ?_
        refine lv_icmp_ne (tgt := 125) hx hb dX6_isBroken_118 (by decide) (fun c_102 => ?_) (fun c_102 => ?_)
        · rw [if_neg c_102] at hR
          have hV := hV.2 c_102
          exact Ks125_0  g_M x1 (0 : Int32) H locs ls hP hD hS (lv_sub hl [0, 1, 2] rfl) hV hR
        · rw [if_pos c_102] at hR
          have hV := hV.1 c_102
          refine lv_iconst (v := (1 : Int32)) hx hb dX6_isBroken_121 (by decide +kernel) ?_
          refine lv_goto (tgt := 126) hx hb dX6_isBroken_122 (by decide) ?_
          exact Ks126_0  g_M x1 (1 : Int32) (0 : Int32) H locs ls hP hD hS (lv_sub hl [0, 1, 2] rfl) hV hR
  have hl := lv_entry ([.ref q6, .int a0]) (n := 5) (Nat.le_of_ble_eq_true rfl)
  rw [lg_entry_eq]
  generalize (lg_sl ([.ref q6, .int a0]) ++ List.replicate (5 - (lg_sl ([.ref q6, .int a0])).length) Slot.unset).toArray = ls at hl ⊢
  have hl : lv_has ls 5 [(0, .ref q6), (1, .int a0)] := hl
  unfold cf_X6_isBroken at hR
  unfold vc_X6_isBroken at hV
  refine mu_start (A := A) (fun H locs hP hS => ?_) hP
  refine lv_iload_n hx hb dX6_isBroken_0 rfl (lv_at hl 1 rfl) ?_
  refine lv_if_eq (tgt := 9) hx hb dX6_isBroken_1 (by decide) (fun c_1 => ?_) (fun c_1 => ?_)
  · rw [if_pos c_1] at hR
    have hV := hV.1 c_1
    exact Ks9  g_M a0 H locs ls hP hD hS (lv_sub hl [0, 1] rfl) hV hR
  · rw [if_neg c_1] at hR
    have hV := hV.2 c_1
    refine lv_iload_n hx hb dX6_isBroken_4 rfl (lv_at hl 1 rfl) ?_
    refine lv_iconst (v := (3 : Int32)) hx hb dX6_isBroken_5 (by decide +kernel) ?_
    refine lv_icmp_ne (tgt := 86) hx hb dX6_isBroken_6 (by decide) (fun c_28 => ?_) (fun c_28 => ?_)
    · rw [if_neg c_28] at hR
      have hV := hV.2 c_28
      refine lv_iconst (v := (0 : Int32)) hx hb dX6_isBroken_86 (by decide +kernel) ?_
      refine lv_istore_n (lv' := [(2, .int (0 : Int32)), (0, .ref q6), (1, .int a0)]) hx hb dX6_isBroken_87 rfl hl (by decide) rfl (fun ls hl => ?_)
      exact Ks88_0  g_M a0 H locs ls hP hD hS (lv_sub hl [1, 2, 0] rfl) hV hR
    · rw [if_pos c_28] at hR
      have hV := hV.1 c_28
      exact Ks9  g_M a0 H locs ls hP hD hS (lv_sub hl [0, 1] rfl) hV hR
