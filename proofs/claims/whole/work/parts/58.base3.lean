abbrev ar_W (qh : Nat) (cyI : ClassId) (t_H : Nat → Int32) : va_W := [(qh, .inl (cyI, 32768, .inl t_H))]
abbrev mv_W (q1 q3 : Nat) (w_o w_f w_r w_b w_a : Int32) (w_l : Int64) : va_W := [(q1, .inr (0, [.ref q3])), (q3, .inr (2, [.int w_o, .int w_f, .int w_r, .int w_b, .int w_a, .long w_l]))]
abbrev su_W (q3 : Nat) (w_o w_f w_r w_b w_a : Int32) (w_l : Int64) : va_W := [(q3, .inr (2, [.int w_o, .int w_f, .int w_r, .int w_b, .int w_a, .long w_l]))]
