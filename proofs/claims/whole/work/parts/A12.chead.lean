/-! THE HEADER, pure, in the order of the component -/
def hdC (b : Nat → Nat) (E : Nat) (N X : JV) (H : Nat → Tst) : Res PSt := (pWd b E wd_loop 0).bd (fun _ q0 => (pNum b E 4 41 q0).bd (fun a1 q1 => (pNum b E 0 a1 q1).bd (fun a2 q2 => (pPos b E (fun v => decide (v = a2)) a1 q2).bd (fun a3 q3 => (pWd b E wd_level q3).bd (fun _ q4 => (pNum b E 1 5 q4).bd (fun a5 q5 => (pNum b E 1 100 q5).bd (fun a6 q6 => (pNum b E 0 1001 q6).bd (fun a7 q7 => (pWd b E wd_level q7).bd (fun _ q8 => (pNum b E 1 5 q8).bd (fun a9 q9 => (pNum b E 1 100 q9).bd (fun a10 q10 => (pNum b E 0 1001 q10).bd (fun a11 q11 => (pWd b E wd_level q11).bd (fun _ q12 => (pNum b E 1 5 q12).bd (fun a13 q13 => (pNum b E 1 100 q13).bd (fun a14 q14 => (pNum b E 0 1001 q14).bd (fun a15 q15 => (pWd b E wd_hot q15).bd (fun _ q16 => (pNum b E 0 1000 q16).bd (fun a17 q17 => (pWd b E wd_seed q17).bd (fun _ q18 => (pNum b E 0 100000 q18).bd (fun a19 q19 => (.inr ((w1 (w1 (w1 (w1 (w1 (w1 (w1 (w1 (w1 (w1 (w1 (w1 N 0 (nI a1)) 1 (nI a2)) 2 (nI a3)) 3 (nI a5)) 6 (nI a6)) 9 (nI a7)) 4 (nI a9)) 7 (nI a10)) 10 (nI a11)) 5 (nI a13)) 8 (nI a14)) 11 (nI a15), w1 (w1 X 4 (nI a17)) 1 (nI a19), H), q19) : Res PSt)))))))))))))))))))))
section B2
variable {b : Nat → Nat} {E : Nat} {N X : JV} {H : Nat → Tst}
theorem hdC_eq : ((hr20 b E (.inr ((), 0))).bd (fun _ q => .inr ((hN1 b E (.inr ((), 0)) N, hX1 b E (.inr ((), 0)) X, H), q)) : Res PSt) = hdC b E N X H := by
  unfold hdC
  cases h0 : pWd b E wd_loop 0 with
  | inl e =>
    have e0 : hr1 b E (.inr ((), 0)) = .inl e := by
      unfold hr1
      exact h0
    have e1 : hr2 b E (.inr ((), 0)) = .inl e := by
      unfold hr2
      rw [e0]
      rfl
    have e2 : hr3 b E (.inr ((), 0)) = .inl e := by
      unfold hr3
      rw [e1]
      rfl
    have e3 : hr4 b E (.inr ((), 0)) = .inl e := by
      unfold hr4
      rw [e2]
      rfl
    have e4 : hr5 b E (.inr ((), 0)) = .inl e := by
      unfold hr5
      rw [e3]
      rfl
    have e5 : hr6 b E (.inr ((), 0)) = .inl e := by
      unfold hr6
      rw [e4]
      rfl
    have e6 : hr7 b E (.inr ((), 0)) = .inl e := by
      unfold hr7
      rw [e5]
      rfl
    have e7 : hr8 b E (.inr ((), 0)) = .inl e := by
      unfold hr8
      rw [e6]
      rfl
    have e8 : hr9 b E (.inr ((), 0)) = .inl e := by
      unfold hr9
      rw [e7]
      rfl
    have e9 : hr10 b E (.inr ((), 0)) = .inl e := by
      unfold hr10
      rw [e8]
      rfl
    have e10 : hr11 b E (.inr ((), 0)) = .inl e := by
      unfold hr11
      rw [e9]
      rfl
    have e11 : hr12 b E (.inr ((), 0)) = .inl e := by
      unfold hr12
      rw [e10]
      rfl
    have e12 : hr13 b E (.inr ((), 0)) = .inl e := by
      unfold hr13
      rw [e11]
      rfl
    have e13 : hr14 b E (.inr ((), 0)) = .inl e := by
      unfold hr14
      rw [e12]
      rfl
    have e14 : hr15 b E (.inr ((), 0)) = .inl e := by
      unfold hr15
      rw [e13]
      rfl
    have e15 : hr16 b E (.inr ((), 0)) = .inl e := by
      unfold hr16
      rw [e14]
      rfl
    have e16 : hr17 b E (.inr ((), 0)) = .inl e := by
      unfold hr17
      rw [e15]
      rfl
    have e17 : hr18 b E (.inr ((), 0)) = .inl e := by
      unfold hr18
      rw [e16]
      rfl
    have e18 : hr19 b E (.inr ((), 0)) = .inl e := by
      unfold hr19
      rw [e17]
      rfl
    have e19 : hr20 b E (.inr ((), 0)) = .inl e := by
      unfold hr20
      rw [e18]
      rfl
    rw [e19]
    rfl
  | inr x0 =>
   have e0 : hr1 b E (.inr ((), 0)) = .inr ((), x0.2) := by
     unfold hr1
     exact h0
   rw [Res.bd_r]
   cases h1 : pNum b E 4 41 x0.2 with
   | inl e =>
     have e1 : hr2 b E (.inr ((), 0)) = .inl e := by
       unfold hr2
       rw [e0]
       show rU (pNum b E 4 41 x0.2) = _
       rw [h1]
       rfl
     have e2 : hr3 b E (.inr ((), 0)) = .inl e := by
       unfold hr3
       rw [e1]
       rfl
     have e3 : hr4 b E (.inr ((), 0)) = .inl e := by
       unfold hr4
       rw [e2]
       rfl
     have e4 : hr5 b E (.inr ((), 0)) = .inl e := by
       unfold hr5
       rw [e3]
       rfl
     have e5 : hr6 b E (.inr ((), 0)) = .inl e := by
       unfold hr6
       rw [e4]
       rfl
     have e6 : hr7 b E (.inr ((), 0)) = .inl e := by
       unfold hr7
       rw [e5]
       rfl
     have e7 : hr8 b E (.inr ((), 0)) = .inl e := by
       unfold hr8
       rw [e6]
       rfl
     have e8 : hr9 b E (.inr ((), 0)) = .inl e := by
       unfold hr9
       rw [e7]
       rfl
     have e9 : hr10 b E (.inr ((), 0)) = .inl e := by
       unfold hr10
       rw [e8]
       rfl
     have e10 : hr11 b E (.inr ((), 0)) = .inl e := by
       unfold hr11
       rw [e9]
       rfl
     have e11 : hr12 b E (.inr ((), 0)) = .inl e := by
       unfold hr12
       rw [e10]
       rfl
     have e12 : hr13 b E (.inr ((), 0)) = .inl e := by
       unfold hr13
       rw [e11]
       rfl
     have e13 : hr14 b E (.inr ((), 0)) = .inl e := by
       unfold hr14
       rw [e12]
       rfl
     have e14 : hr15 b E (.inr ((), 0)) = .inl e := by
       unfold hr15
       rw [e13]
       rfl
     have e15 : hr16 b E (.inr ((), 0)) = .inl e := by
       unfold hr16
       rw [e14]
       rfl
     have e16 : hr17 b E (.inr ((), 0)) = .inl e := by
       unfold hr17
       rw [e15]
       rfl
     have e17 : hr18 b E (.inr ((), 0)) = .inl e := by
       unfold hr18
       rw [e16]
       rfl
     have e18 : hr19 b E (.inr ((), 0)) = .inl e := by
       unfold hr19
       rw [e17]
       rfl
     have e19 : hr20 b E (.inr ((), 0)) = .inl e := by
       unfold hr20
       rw [e18]
       rfl
     rw [e19]
     rfl
   | inr x1 =>
    have e1 : hr2 b E (.inr ((), 0)) = .inr ((), x1.2) := by
      unfold hr2
      rw [e0]
      show rU (pNum b E 4 41 x0.2) = _
      rw [h1]
      rfl
    have v1 : hv0 b E (.inr ((), 0)) = x1.1 := by
      unfold hv0
      rw [e0]
      show vU 4 (pNum b E 4 41 x0.2) = _
      rw [h1]
      rfl
    rw [Res.bd_r]
    cases h2 : pNum b E 0 x1.1 x1.2 with
    | inl e =>
      have e2 : hr3 b E (.inr ((), 0)) = .inl e := by
        unfold hr3
        rw [v1, e1]
        show rU (pNum b E 0 x1.1 x1.2) = _
        rw [h2]
        rfl
      have e3 : hr4 b E (.inr ((), 0)) = .inl e := by
        unfold hr4
        rw [e2]
        rfl
      have e4 : hr5 b E (.inr ((), 0)) = .inl e := by
        unfold hr5
        rw [e3]
        rfl
      have e5 : hr6 b E (.inr ((), 0)) = .inl e := by
        unfold hr6
        rw [e4]
        rfl
      have e6 : hr7 b E (.inr ((), 0)) = .inl e := by
        unfold hr7
        rw [e5]
        rfl
      have e7 : hr8 b E (.inr ((), 0)) = .inl e := by
        unfold hr8
        rw [e6]
        rfl
      have e8 : hr9 b E (.inr ((), 0)) = .inl e := by
        unfold hr9
        rw [e7]
        rfl
      have e9 : hr10 b E (.inr ((), 0)) = .inl e := by
        unfold hr10
        rw [e8]
        rfl
      have e10 : hr11 b E (.inr ((), 0)) = .inl e := by
        unfold hr11
        rw [e9]
        rfl
      have e11 : hr12 b E (.inr ((), 0)) = .inl e := by
        unfold hr12
        rw [e10]
        rfl
      have e12 : hr13 b E (.inr ((), 0)) = .inl e := by
        unfold hr13
        rw [e11]
        rfl
      have e13 : hr14 b E (.inr ((), 0)) = .inl e := by
        unfold hr14
        rw [e12]
        rfl
      have e14 : hr15 b E (.inr ((), 0)) = .inl e := by
        unfold hr15
        rw [e13]
        rfl
      have e15 : hr16 b E (.inr ((), 0)) = .inl e := by
        unfold hr16
        rw [e14]
        rfl
      have e16 : hr17 b E (.inr ((), 0)) = .inl e := by
        unfold hr17
        rw [e15]
        rfl
      have e17 : hr18 b E (.inr ((), 0)) = .inl e := by
        unfold hr18
        rw [e16]
        rfl
      have e18 : hr19 b E (.inr ((), 0)) = .inl e := by
        unfold hr19
        rw [e17]
        rfl
      have e19 : hr20 b E (.inr ((), 0)) = .inl e := by
        unfold hr20
        rw [e18]
        rfl
      rw [e19]
      rfl
    | inr x2 =>
     have e2 : hr3 b E (.inr ((), 0)) = .inr ((), x2.2) := by
       unfold hr3
       rw [v1, e1]
       show rU (pNum b E 0 x1.1 x1.2) = _
       rw [h2]
       rfl
     have v2 : hv1 b E (.inr ((), 0)) = x2.1 := by
       unfold hv1
       rw [v1, e1]
       show vU 0 (pNum b E 0 x1.1 x1.2) = _
       rw [h2]
       rfl
     rw [Res.bd_r]
     cases h3 : pPos b E (fun v => decide (v = x2.1)) x1.1 x2.2 with
     | inl e =>
       have e3 : hr4 b E (.inr ((), 0)) = .inl e := by
         unfold hr4
         rw [v2, v1, e2]
         show rU (pPos b E (fun v => decide (v = x2.1)) x1.1 x2.2) = _
         rw [h3]
         rfl
       have e4 : hr5 b E (.inr ((), 0)) = .inl e := by
         unfold hr5
         rw [e3]
         rfl
       have e5 : hr6 b E (.inr ((), 0)) = .inl e := by
         unfold hr6
         rw [e4]
         rfl
       have e6 : hr7 b E (.inr ((), 0)) = .inl e := by
         unfold hr7
         rw [e5]
         rfl
       have e7 : hr8 b E (.inr ((), 0)) = .inl e := by
         unfold hr8
         rw [e6]
         rfl
       have e8 : hr9 b E (.inr ((), 0)) = .inl e := by
         unfold hr9
         rw [e7]
         rfl
       have e9 : hr10 b E (.inr ((), 0)) = .inl e := by
         unfold hr10
         rw [e8]
         rfl
       have e10 : hr11 b E (.inr ((), 0)) = .inl e := by
         unfold hr11
         rw [e9]
         rfl
       have e11 : hr12 b E (.inr ((), 0)) = .inl e := by
         unfold hr12
         rw [e10]
         rfl
       have e12 : hr13 b E (.inr ((), 0)) = .inl e := by
         unfold hr13
         rw [e11]
         rfl
       have e13 : hr14 b E (.inr ((), 0)) = .inl e := by
         unfold hr14
         rw [e12]
         rfl
       have e14 : hr15 b E (.inr ((), 0)) = .inl e := by
         unfold hr15
         rw [e13]
         rfl
       have e15 : hr16 b E (.inr ((), 0)) = .inl e := by
         unfold hr16
         rw [e14]
         rfl
       have e16 : hr17 b E (.inr ((), 0)) = .inl e := by
         unfold hr17
         rw [e15]
         rfl
       have e17 : hr18 b E (.inr ((), 0)) = .inl e := by
         unfold hr18
         rw [e16]
         rfl
       have e18 : hr19 b E (.inr ((), 0)) = .inl e := by
         unfold hr19
         rw [e17]
         rfl
       have e19 : hr20 b E (.inr ((), 0)) = .inl e := by
         unfold hr20
         rw [e18]
         rfl
       rw [e19]
       rfl
     | inr x3 =>
      have e3 : hr4 b E (.inr ((), 0)) = .inr ((), x3.2) := by
        unfold hr4
        rw [v2, v1, e2]
        show rU (pPos b E (fun v => decide (v = x2.1)) x1.1 x2.2) = _
        rw [h3]
        rfl
      have v3 : hv2 b E (.inr ((), 0)) = x3.1 := by
        unfold hv2
        rw [v1, e2]
        show vU 0 (pNum b E 0 x1.1 x2.2) = _
        rw [(pPos_o h3).1]
        rfl
      rw [Res.bd_r]
      cases h4 : pWd b E wd_level x3.2 with
      | inl e =>
        have e4 : hr5 b E (.inr ((), 0)) = .inl e := by
          unfold hr5
          rw [e3]
          exact h4
        have e5 : hr6 b E (.inr ((), 0)) = .inl e := by
          unfold hr6
          rw [e4]
          rfl
        have e6 : hr7 b E (.inr ((), 0)) = .inl e := by
          unfold hr7
          rw [e5]
          rfl
        have e7 : hr8 b E (.inr ((), 0)) = .inl e := by
          unfold hr8
          rw [e6]
          rfl
        have e8 : hr9 b E (.inr ((), 0)) = .inl e := by
          unfold hr9
          rw [e7]
          rfl
        have e9 : hr10 b E (.inr ((), 0)) = .inl e := by
          unfold hr10
          rw [e8]
          rfl
        have e10 : hr11 b E (.inr ((), 0)) = .inl e := by
          unfold hr11
          rw [e9]
          rfl
        have e11 : hr12 b E (.inr ((), 0)) = .inl e := by
          unfold hr12
          rw [e10]
          rfl
        have e12 : hr13 b E (.inr ((), 0)) = .inl e := by
          unfold hr13
          rw [e11]
          rfl
        have e13 : hr14 b E (.inr ((), 0)) = .inl e := by
          unfold hr14
          rw [e12]
          rfl
        have e14 : hr15 b E (.inr ((), 0)) = .inl e := by
          unfold hr15
          rw [e13]
          rfl
        have e15 : hr16 b E (.inr ((), 0)) = .inl e := by
          unfold hr16
          rw [e14]
          rfl
        have e16 : hr17 b E (.inr ((), 0)) = .inl e := by
          unfold hr17
          rw [e15]
          rfl
        have e17 : hr18 b E (.inr ((), 0)) = .inl e := by
          unfold hr18
          rw [e16]
          rfl
        have e18 : hr19 b E (.inr ((), 0)) = .inl e := by
          unfold hr19
          rw [e17]
          rfl
        have e19 : hr20 b E (.inr ((), 0)) = .inl e := by
          unfold hr20
          rw [e18]
          rfl
        rw [e19]
        rfl
      | inr x4 =>
       have e4 : hr5 b E (.inr ((), 0)) = .inr ((), x4.2) := by
         unfold hr5
         rw [e3]
         exact h4
       rw [Res.bd_r]
       cases h5 : pNum b E 1 5 x4.2 with
       | inl e =>
         have e5 : hr6 b E (.inr ((), 0)) = .inl e := by
           unfold hr6
           rw [e4]
           show rU (pNum b E 1 5 x4.2) = _
           rw [h5]
           rfl
         have e6 : hr7 b E (.inr ((), 0)) = .inl e := by
           unfold hr7
           rw [e5]
           rfl
         have e7 : hr8 b E (.inr ((), 0)) = .inl e := by
           unfold hr8
           rw [e6]
           rfl
         have e8 : hr9 b E (.inr ((), 0)) = .inl e := by
           unfold hr9
           rw [e7]
           rfl
         have e9 : hr10 b E (.inr ((), 0)) = .inl e := by
           unfold hr10
           rw [e8]
           rfl
         have e10 : hr11 b E (.inr ((), 0)) = .inl e := by
           unfold hr11
           rw [e9]
           rfl
         have e11 : hr12 b E (.inr ((), 0)) = .inl e := by
           unfold hr12
           rw [e10]
           rfl
         have e12 : hr13 b E (.inr ((), 0)) = .inl e := by
           unfold hr13
           rw [e11]
           rfl
         have e13 : hr14 b E (.inr ((), 0)) = .inl e := by
           unfold hr14
           rw [e12]
           rfl
         have e14 : hr15 b E (.inr ((), 0)) = .inl e := by
           unfold hr15
           rw [e13]
           rfl
         have e15 : hr16 b E (.inr ((), 0)) = .inl e := by
           unfold hr16
           rw [e14]
           rfl
         have e16 : hr17 b E (.inr ((), 0)) = .inl e := by
           unfold hr17
           rw [e15]
           rfl
         have e17 : hr18 b E (.inr ((), 0)) = .inl e := by
           unfold hr18
           rw [e16]
           rfl
         have e18 : hr19 b E (.inr ((), 0)) = .inl e := by
           unfold hr19
           rw [e17]
           rfl
         have e19 : hr20 b E (.inr ((), 0)) = .inl e := by
           unfold hr20
           rw [e18]
           rfl
         rw [e19]
         rfl
       | inr x5 =>
        have e5 : hr6 b E (.inr ((), 0)) = .inr ((), x5.2) := by
          unfold hr6
          rw [e4]
          show rU (pNum b E 1 5 x4.2) = _
          rw [h5]
          rfl
        have v5 : hv3 b E (.inr ((), 0)) = x5.1 := by
          unfold hv3
          rw [e4]
          show vU 1 (pNum b E 1 5 x4.2) = _
          rw [h5]
          rfl
        rw [Res.bd_r]
        cases h6 : pNum b E 1 100 x5.2 with
        | inl e =>
          have e6 : hr7 b E (.inr ((), 0)) = .inl e := by
            unfold hr7
            rw [e5]
            show rU (pNum b E 1 100 x5.2) = _
            rw [h6]
            rfl
          have e7 : hr8 b E (.inr ((), 0)) = .inl e := by
            unfold hr8
            rw [e6]
            rfl
          have e8 : hr9 b E (.inr ((), 0)) = .inl e := by
            unfold hr9
            rw [e7]
            rfl
          have e9 : hr10 b E (.inr ((), 0)) = .inl e := by
            unfold hr10
            rw [e8]
            rfl
          have e10 : hr11 b E (.inr ((), 0)) = .inl e := by
            unfold hr11
            rw [e9]
            rfl
          have e11 : hr12 b E (.inr ((), 0)) = .inl e := by
            unfold hr12
            rw [e10]
            rfl
          have e12 : hr13 b E (.inr ((), 0)) = .inl e := by
            unfold hr13
            rw [e11]
            rfl
          have e13 : hr14 b E (.inr ((), 0)) = .inl e := by
            unfold hr14
            rw [e12]
            rfl
          have e14 : hr15 b E (.inr ((), 0)) = .inl e := by
            unfold hr15
            rw [e13]
            rfl
          have e15 : hr16 b E (.inr ((), 0)) = .inl e := by
            unfold hr16
            rw [e14]
            rfl
          have e16 : hr17 b E (.inr ((), 0)) = .inl e := by
            unfold hr17
            rw [e15]
            rfl
          have e17 : hr18 b E (.inr ((), 0)) = .inl e := by
            unfold hr18
            rw [e16]
            rfl
          have e18 : hr19 b E (.inr ((), 0)) = .inl e := by
            unfold hr19
            rw [e17]
            rfl
          have e19 : hr20 b E (.inr ((), 0)) = .inl e := by
            unfold hr20
            rw [e18]
            rfl
          rw [e19]
          rfl
        | inr x6 =>
         have e6 : hr7 b E (.inr ((), 0)) = .inr ((), x6.2) := by
           unfold hr7
           rw [e5]
           show rU (pNum b E 1 100 x5.2) = _
           rw [h6]
           rfl
         have v6 : hv6 b E (.inr ((), 0)) = x6.1 := by
           unfold hv6
           rw [e5]
           show vU 1 (pNum b E 1 100 x5.2) = _
           rw [h6]
           rfl
         rw [Res.bd_r]
         cases h7 : pNum b E 0 1001 x6.2 with
         | inl e =>
           have e7 : hr8 b E (.inr ((), 0)) = .inl e := by
             unfold hr8
             rw [e6]
             show rU (pNum b E 0 1001 x6.2) = _
             rw [h7]
             rfl
           have e8 : hr9 b E (.inr ((), 0)) = .inl e := by
             unfold hr9
             rw [e7]
             rfl
           have e9 : hr10 b E (.inr ((), 0)) = .inl e := by
             unfold hr10
             rw [e8]
             rfl
           have e10 : hr11 b E (.inr ((), 0)) = .inl e := by
             unfold hr11
             rw [e9]
             rfl
           have e11 : hr12 b E (.inr ((), 0)) = .inl e := by
             unfold hr12
             rw [e10]
             rfl
           have e12 : hr13 b E (.inr ((), 0)) = .inl e := by
             unfold hr13
             rw [e11]
             rfl
           have e13 : hr14 b E (.inr ((), 0)) = .inl e := by
             unfold hr14
             rw [e12]
             rfl
           have e14 : hr15 b E (.inr ((), 0)) = .inl e := by
             unfold hr15
             rw [e13]
             rfl
           have e15 : hr16 b E (.inr ((), 0)) = .inl e := by
             unfold hr16
             rw [e14]
             rfl
           have e16 : hr17 b E (.inr ((), 0)) = .inl e := by
             unfold hr17
             rw [e15]
             rfl
           have e17 : hr18 b E (.inr ((), 0)) = .inl e := by
             unfold hr18
             rw [e16]
             rfl
           have e18 : hr19 b E (.inr ((), 0)) = .inl e := by
             unfold hr19
             rw [e17]
             rfl
           have e19 : hr20 b E (.inr ((), 0)) = .inl e := by
             unfold hr20
             rw [e18]
             rfl
           rw [e19]
           rfl
         | inr x7 =>
          have e7 : hr8 b E (.inr ((), 0)) = .inr ((), x7.2) := by
            unfold hr8
            rw [e6]
            show rU (pNum b E 0 1001 x6.2) = _
            rw [h7]
            rfl
          have v7 : hv9 b E (.inr ((), 0)) = x7.1 := by
            unfold hv9
            rw [e6]
            show vU 0 (pNum b E 0 1001 x6.2) = _
            rw [h7]
            rfl
          rw [Res.bd_r]
          cases h8 : pWd b E wd_level x7.2 with
          | inl e =>
            have e8 : hr9 b E (.inr ((), 0)) = .inl e := by
              unfold hr9
              rw [e7]
              exact h8
            have e9 : hr10 b E (.inr ((), 0)) = .inl e := by
              unfold hr10
              rw [e8]
              rfl
            have e10 : hr11 b E (.inr ((), 0)) = .inl e := by
              unfold hr11
              rw [e9]
              rfl
            have e11 : hr12 b E (.inr ((), 0)) = .inl e := by
              unfold hr12
              rw [e10]
              rfl
            have e12 : hr13 b E (.inr ((), 0)) = .inl e := by
              unfold hr13
              rw [e11]
              rfl
            have e13 : hr14 b E (.inr ((), 0)) = .inl e := by
              unfold hr14
              rw [e12]
              rfl
            have e14 : hr15 b E (.inr ((), 0)) = .inl e := by
              unfold hr15
              rw [e13]
              rfl
            have e15 : hr16 b E (.inr ((), 0)) = .inl e := by
              unfold hr16
              rw [e14]
              rfl
            have e16 : hr17 b E (.inr ((), 0)) = .inl e := by
              unfold hr17
              rw [e15]
              rfl
            have e17 : hr18 b E (.inr ((), 0)) = .inl e := by
              unfold hr18
              rw [e16]
              rfl
            have e18 : hr19 b E (.inr ((), 0)) = .inl e := by
              unfold hr19
              rw [e17]
              rfl
            have e19 : hr20 b E (.inr ((), 0)) = .inl e := by
              unfold hr20
              rw [e18]
              rfl
            rw [e19]
            rfl
          | inr x8 =>
           have e8 : hr9 b E (.inr ((), 0)) = .inr ((), x8.2) := by
             unfold hr9
             rw [e7]
             exact h8
           rw [Res.bd_r]
           cases h9 : pNum b E 1 5 x8.2 with
           | inl e =>
             have e9 : hr10 b E (.inr ((), 0)) = .inl e := by
               unfold hr10
               rw [e8]
               show rU (pNum b E 1 5 x8.2) = _
               rw [h9]
               rfl
             have e10 : hr11 b E (.inr ((), 0)) = .inl e := by
               unfold hr11
               rw [e9]
               rfl
             have e11 : hr12 b E (.inr ((), 0)) = .inl e := by
               unfold hr12
               rw [e10]
               rfl
             have e12 : hr13 b E (.inr ((), 0)) = .inl e := by
               unfold hr13
               rw [e11]
               rfl
             have e13 : hr14 b E (.inr ((), 0)) = .inl e := by
               unfold hr14
               rw [e12]
               rfl
             have e14 : hr15 b E (.inr ((), 0)) = .inl e := by
               unfold hr15
               rw [e13]
               rfl
             have e15 : hr16 b E (.inr ((), 0)) = .inl e := by
               unfold hr16
               rw [e14]
               rfl
             have e16 : hr17 b E (.inr ((), 0)) = .inl e := by
               unfold hr17
               rw [e15]
               rfl
             have e17 : hr18 b E (.inr ((), 0)) = .inl e := by
               unfold hr18
               rw [e16]
               rfl
             have e18 : hr19 b E (.inr ((), 0)) = .inl e := by
               unfold hr19
               rw [e17]
               rfl
             have e19 : hr20 b E (.inr ((), 0)) = .inl e := by
               unfold hr20
               rw [e18]
               rfl
             rw [e19]
             rfl
           | inr x9 =>
            have e9 : hr10 b E (.inr ((), 0)) = .inr ((), x9.2) := by
              unfold hr10
              rw [e8]
              show rU (pNum b E 1 5 x8.2) = _
              rw [h9]
              rfl
            have v9 : hv4 b E (.inr ((), 0)) = x9.1 := by
              unfold hv4
              rw [e8]
              show vU 1 (pNum b E 1 5 x8.2) = _
              rw [h9]
              rfl
            rw [Res.bd_r]
            cases h10 : pNum b E 1 100 x9.2 with
            | inl e =>
              have e10 : hr11 b E (.inr ((), 0)) = .inl e := by
                unfold hr11
                rw [e9]
                show rU (pNum b E 1 100 x9.2) = _
                rw [h10]
                rfl
              have e11 : hr12 b E (.inr ((), 0)) = .inl e := by
                unfold hr12
                rw [e10]
                rfl
              have e12 : hr13 b E (.inr ((), 0)) = .inl e := by
                unfold hr13
                rw [e11]
                rfl
              have e13 : hr14 b E (.inr ((), 0)) = .inl e := by
                unfold hr14
                rw [e12]
                rfl
              have e14 : hr15 b E (.inr ((), 0)) = .inl e := by
                unfold hr15
                rw [e13]
                rfl
              have e15 : hr16 b E (.inr ((), 0)) = .inl e := by
                unfold hr16
                rw [e14]
                rfl
              have e16 : hr17 b E (.inr ((), 0)) = .inl e := by
                unfold hr17
                rw [e15]
                rfl
              have e17 : hr18 b E (.inr ((), 0)) = .inl e := by
                unfold hr18
                rw [e16]
                rfl
              have e18 : hr19 b E (.inr ((), 0)) = .inl e := by
                unfold hr19
                rw [e17]
                rfl
              have e19 : hr20 b E (.inr ((), 0)) = .inl e := by
                unfold hr20
                rw [e18]
                rfl
              rw [e19]
              rfl
            | inr x10 =>
             have e10 : hr11 b E (.inr ((), 0)) = .inr ((), x10.2) := by
               unfold hr11
               rw [e9]
               show rU (pNum b E 1 100 x9.2) = _
               rw [h10]
               rfl
             have v10 : hv7 b E (.inr ((), 0)) = x10.1 := by
               unfold hv7
               rw [e9]
               show vU 1 (pNum b E 1 100 x9.2) = _
               rw [h10]
               rfl
             rw [Res.bd_r]
             cases h11 : pNum b E 0 1001 x10.2 with
             | inl e =>
               have e11 : hr12 b E (.inr ((), 0)) = .inl e := by
                 unfold hr12
                 rw [e10]
                 show rU (pNum b E 0 1001 x10.2) = _
                 rw [h11]
                 rfl
               have e12 : hr13 b E (.inr ((), 0)) = .inl e := by
                 unfold hr13
                 rw [e11]
                 rfl
               have e13 : hr14 b E (.inr ((), 0)) = .inl e := by
                 unfold hr14
                 rw [e12]
                 rfl
               have e14 : hr15 b E (.inr ((), 0)) = .inl e := by
                 unfold hr15
                 rw [e13]
                 rfl
               have e15 : hr16 b E (.inr ((), 0)) = .inl e := by
                 unfold hr16
                 rw [e14]
                 rfl
               have e16 : hr17 b E (.inr ((), 0)) = .inl e := by
                 unfold hr17
                 rw [e15]
                 rfl
               have e17 : hr18 b E (.inr ((), 0)) = .inl e := by
                 unfold hr18
                 rw [e16]
                 rfl
               have e18 : hr19 b E (.inr ((), 0)) = .inl e := by
                 unfold hr19
                 rw [e17]
                 rfl
               have e19 : hr20 b E (.inr ((), 0)) = .inl e := by
                 unfold hr20
                 rw [e18]
                 rfl
               rw [e19]
               rfl
             | inr x11 =>
              have e11 : hr12 b E (.inr ((), 0)) = .inr ((), x11.2) := by
                unfold hr12
                rw [e10]
                show rU (pNum b E 0 1001 x10.2) = _
                rw [h11]
                rfl
              have v11 : hv10 b E (.inr ((), 0)) = x11.1 := by
                unfold hv10
                rw [e10]
                show vU 0 (pNum b E 0 1001 x10.2) = _
                rw [h11]
                rfl
              rw [Res.bd_r]
              cases h12 : pWd b E wd_level x11.2 with
              | inl e =>
                have e12 : hr13 b E (.inr ((), 0)) = .inl e := by
                  unfold hr13
                  rw [e11]
                  exact h12
                have e13 : hr14 b E (.inr ((), 0)) = .inl e := by
                  unfold hr14
                  rw [e12]
                  rfl
                have e14 : hr15 b E (.inr ((), 0)) = .inl e := by
                  unfold hr15
                  rw [e13]
                  rfl
                have e15 : hr16 b E (.inr ((), 0)) = .inl e := by
                  unfold hr16
                  rw [e14]
                  rfl
                have e16 : hr17 b E (.inr ((), 0)) = .inl e := by
                  unfold hr17
                  rw [e15]
                  rfl
                have e17 : hr18 b E (.inr ((), 0)) = .inl e := by
                  unfold hr18
                  rw [e16]
                  rfl
                have e18 : hr19 b E (.inr ((), 0)) = .inl e := by
                  unfold hr19
                  rw [e17]
                  rfl
                have e19 : hr20 b E (.inr ((), 0)) = .inl e := by
                  unfold hr20
                  rw [e18]
                  rfl
                rw [e19]
                rfl
              | inr x12 =>
               have e12 : hr13 b E (.inr ((), 0)) = .inr ((), x12.2) := by
                 unfold hr13
                 rw [e11]
                 exact h12
               rw [Res.bd_r]
               cases h13 : pNum b E 1 5 x12.2 with
               | inl e =>
                 have e13 : hr14 b E (.inr ((), 0)) = .inl e := by
                   unfold hr14
                   rw [e12]
                   show rU (pNum b E 1 5 x12.2) = _
                   rw [h13]
                   rfl
                 have e14 : hr15 b E (.inr ((), 0)) = .inl e := by
                   unfold hr15
                   rw [e13]
                   rfl
                 have e15 : hr16 b E (.inr ((), 0)) = .inl e := by
                   unfold hr16
                   rw [e14]
                   rfl
                 have e16 : hr17 b E (.inr ((), 0)) = .inl e := by
                   unfold hr17
                   rw [e15]
                   rfl
                 have e17 : hr18 b E (.inr ((), 0)) = .inl e := by
                   unfold hr18
                   rw [e16]
                   rfl
                 have e18 : hr19 b E (.inr ((), 0)) = .inl e := by
                   unfold hr19
                   rw [e17]
                   rfl
                 have e19 : hr20 b E (.inr ((), 0)) = .inl e := by
                   unfold hr20
                   rw [e18]
                   rfl
                 rw [e19]
                 rfl
               | inr x13 =>
                have e13 : hr14 b E (.inr ((), 0)) = .inr ((), x13.2) := by
                  unfold hr14
                  rw [e12]
                  show rU (pNum b E 1 5 x12.2) = _
                  rw [h13]
                  rfl
                have v13 : hv5 b E (.inr ((), 0)) = x13.1 := by
                  unfold hv5
                  rw [e12]
                  show vU 1 (pNum b E 1 5 x12.2) = _
                  rw [h13]
                  rfl
                rw [Res.bd_r]
                cases h14 : pNum b E 1 100 x13.2 with
                | inl e =>
                  have e14 : hr15 b E (.inr ((), 0)) = .inl e := by
                    unfold hr15
                    rw [e13]
                    show rU (pNum b E 1 100 x13.2) = _
                    rw [h14]
                    rfl
                  have e15 : hr16 b E (.inr ((), 0)) = .inl e := by
                    unfold hr16
                    rw [e14]
                    rfl
                  have e16 : hr17 b E (.inr ((), 0)) = .inl e := by
                    unfold hr17
                    rw [e15]
                    rfl
                  have e17 : hr18 b E (.inr ((), 0)) = .inl e := by
                    unfold hr18
                    rw [e16]
                    rfl
                  have e18 : hr19 b E (.inr ((), 0)) = .inl e := by
                    unfold hr19
                    rw [e17]
                    rfl
                  have e19 : hr20 b E (.inr ((), 0)) = .inl e := by
                    unfold hr20
                    rw [e18]
                    rfl
                  rw [e19]
                  rfl
                | inr x14 =>
                 have e14 : hr15 b E (.inr ((), 0)) = .inr ((), x14.2) := by
                   unfold hr15
                   rw [e13]
                   show rU (pNum b E 1 100 x13.2) = _
                   rw [h14]
                   rfl
                 have v14 : hv8 b E (.inr ((), 0)) = x14.1 := by
                   unfold hv8
                   rw [e13]
                   show vU 1 (pNum b E 1 100 x13.2) = _
                   rw [h14]
                   rfl
                 rw [Res.bd_r]
                 cases h15 : pNum b E 0 1001 x14.2 with
                 | inl e =>
                   have e15 : hr16 b E (.inr ((), 0)) = .inl e := by
                     unfold hr16
                     rw [e14]
                     show rU (pNum b E 0 1001 x14.2) = _
                     rw [h15]
                     rfl
                   have e16 : hr17 b E (.inr ((), 0)) = .inl e := by
                     unfold hr17
                     rw [e15]
                     rfl
                   have e17 : hr18 b E (.inr ((), 0)) = .inl e := by
                     unfold hr18
                     rw [e16]
                     rfl
                   have e18 : hr19 b E (.inr ((), 0)) = .inl e := by
                     unfold hr19
                     rw [e17]
                     rfl
                   have e19 : hr20 b E (.inr ((), 0)) = .inl e := by
                     unfold hr20
                     rw [e18]
                     rfl
                   rw [e19]
                   rfl
                 | inr x15 =>
                  have e15 : hr16 b E (.inr ((), 0)) = .inr ((), x15.2) := by
                    unfold hr16
                    rw [e14]
                    show rU (pNum b E 0 1001 x14.2) = _
                    rw [h15]
                    rfl
                  have v15 : hv11 b E (.inr ((), 0)) = x15.1 := by
                    unfold hv11
                    rw [e14]
                    show vU 0 (pNum b E 0 1001 x14.2) = _
                    rw [h15]
                    rfl
                  rw [Res.bd_r]
                  cases h16 : pWd b E wd_hot x15.2 with
                  | inl e =>
                    have e16 : hr17 b E (.inr ((), 0)) = .inl e := by
                      unfold hr17
                      rw [e15]
                      exact h16
                    have e17 : hr18 b E (.inr ((), 0)) = .inl e := by
                      unfold hr18
                      rw [e16]
                      rfl
                    have e18 : hr19 b E (.inr ((), 0)) = .inl e := by
                      unfold hr19
                      rw [e17]
                      rfl
                    have e19 : hr20 b E (.inr ((), 0)) = .inl e := by
                      unfold hr20
                      rw [e18]
                      rfl
                    rw [e19]
                    rfl
                  | inr x16 =>
                   have e16 : hr17 b E (.inr ((), 0)) = .inr ((), x16.2) := by
                     unfold hr17
                     rw [e15]
                     exact h16
                   rw [Res.bd_r]
                   cases h17 : pNum b E 0 1000 x16.2 with
                   | inl e =>
                     have e17 : hr18 b E (.inr ((), 0)) = .inl e := by
                       unfold hr18
                       rw [e16]
                       show rU (pNum b E 0 1000 x16.2) = _
                       rw [h17]
                       rfl
                     have e18 : hr19 b E (.inr ((), 0)) = .inl e := by
                       unfold hr19
                       rw [e17]
                       rfl
                     have e19 : hr20 b E (.inr ((), 0)) = .inl e := by
                       unfold hr20
                       rw [e18]
                       rfl
                     rw [e19]
                     rfl
                   | inr x17 =>
                    have e17 : hr18 b E (.inr ((), 0)) = .inr ((), x17.2) := by
                      unfold hr18
                      rw [e16]
                      show rU (pNum b E 0 1000 x16.2) = _
                      rw [h17]
                      rfl
                    have v17 : hvh b E (.inr ((), 0)) = x17.1 := by
                      unfold hvh
                      rw [e16]
                      show vU 0 (pNum b E 0 1000 x16.2) = _
                      rw [h17]
                      rfl
                    rw [Res.bd_r]
                    cases h18 : pWd b E wd_seed x17.2 with
                    | inl e =>
                      have e18 : hr19 b E (.inr ((), 0)) = .inl e := by
                        unfold hr19
                        rw [e17]
                        exact h18
                      have e19 : hr20 b E (.inr ((), 0)) = .inl e := by
                        unfold hr20
                        rw [e18]
                        rfl
                      rw [e19]
                      rfl
                    | inr x18 =>
                     have e18 : hr19 b E (.inr ((), 0)) = .inr ((), x18.2) := by
                       unfold hr19
                       rw [e17]
                       exact h18
                     rw [Res.bd_r]
                     cases h19 : pNum b E 0 100000 x18.2 with
                     | inl e =>
                       have e19 : hr20 b E (.inr ((), 0)) = .inl e := by
                         unfold hr20
                         rw [e18]
                         show rU (pNum b E 0 100000 x18.2) = _
                         rw [h19]
                         rfl
                       rw [e19]
                       rfl
                     | inr x19 =>
                      have e19 : hr20 b E (.inr ((), 0)) = .inr ((), x19.2) := by
                        unfold hr20
                        rw [e18]
                        show rU (pNum b E 0 100000 x18.2) = _
                        rw [h19]
                        rfl
                      have v19 : hvs b E (.inr ((), 0)) = x19.1 := by
                        unfold hvs
                        rw [e18]
                        show vU 0 (pNum b E 0 100000 x18.2) = _
                        rw [h19]
                        rfl
                      rw [Res.bd_r]
                      rw [e19, Res.bd_r]
                      unfold hN1 hX1
                      rw [v1, v2, v3, v5, v6, v7, v9, v10, v11, v13, v14, v15, v17, v19]
theorem pTxt_eq : pTxt b E N X H = (hdC b E N X H).bd (fun s p => (pLs b E 1200 s p).bd (fun s q => pEn b E s q)) := by
  rw [← hdC_eq]
  unfold pTxt
  cases hr20 b E (.inr ((), 0)) with
  | inl e => rfl
  | inr x => rfl
theorem pPos_f {hx p : Nat} : pPos b E (fun _ => false) hx p = pNum b E 0 hx p := by
  unfold pPos
  cases pNum b E 0 hx p with
  | inl e => rfl
  | inr x => rfl
end B2
