/-! the reference: one work of a day, minute by minute -/
theorem m_would {d np : Nat} {I : Nat → Nat → Int32} {X : MX} {k f dr w law as fg aim : Int32} {fr wi once : Int32} {m l : Nat} {o15 : Option Value} {r : MO × MH → Prop} (hnp : I 44 2 = nI np) (hnp8 : np ≤ 8) (kk : mjGo (d + 1) nyX12_dayOf 218 ([some (.ref 43), some (.int k), some (.int f), some (.int dr), some (.int w), some (.int law), some (.int as), some (.int fg), some (.int fr), some (.int (nI l)), some (.int wi), some (.int once), some (.int aim), some (.int (nI m)), some (.int 0), some (.int (bif wkW as fg dr law aim (I 52) np m l once then 1 else 0))], [], mjH I X) r) : mjGo (d + 1) nyX12_dayOf 132 ([some (.ref 43), some (.int k), some (.int f), some (.int dr), some (.int w), some (.int law), some (.int as), some (.int fg), some (.int fr), some (.int (nI l)), some (.int wi), some (.int once), some (.int aim), some (.int (nI m)), some (.int 0), o15], [], mjH I X) r := by
  refine mjGo.run 3 (pc' := (bif decide (as ≠ 6) then 152 else 139)) (F' := ([some (.ref 43), some (.int k), some (.int f), some (.int dr), some (.int w), some (.int law), some (.int as), some (.int fg), some (.int fr), some (.int (nI l)), some (.int wi), some (.int once), some (.int aim), some (.int (nI m)), some (.int 0), o15], [], mjH I X)) (fun _ => rfl) ?_
  refine mjGo.br (fun q1 => ?_) (fun q1 => ?_)
  · show mjGo _ _ 152 _ _
    refine mjGo.run 3 (pc' := 157) (F' := ([some (.ref 43), some (.int k), some (.int f), some (.int dr), some (.int w), some (.int law), some (.int as), some (.int fg), some (.int fr), some (.int (nI l)), some (.int wi), some (.int once), some (.int aim), some (.int (nI m)), some (.int 0), some (.int 0)], [.int as], mjH I X)) (fun _ => rfl) ?_
    refine mjGo.call (n := 1) (j := 149) (nx := 160) (o := some (.int (mClock as))) (h' := mjH I X) (fun _ => rfl) (c_mClock d as _) ?_
    show mjGo _ _ 160 ([some (.ref 43), some (.int k), some (.int f), some (.int dr), some (.int w), some (.int law), some (.int as), some (.int fg), some (.int fr), some (.int (nI l)), some (.int wi), some (.int once), some (.int aim), some (.int (nI m)), some (.int 0), some (.int 0)], [.int (mClock as)], mjH I X) _
    refine mjGo.run 1 (pc' := (bif decide ((mClock as) = 0) then 218 else 163)) (F' := ([some (.ref 43), some (.int k), some (.int f), some (.int dr), some (.int w), some (.int law), some (.int as), some (.int fg), some (.int fr), some (.int (nI l)), some (.int wi), some (.int once), some (.int aim), some (.int (nI m)), some (.int 0), some (.int 0)], [], mjH I X)) (fun _ => rfl) ?_
    refine mjGo.br (fun q2 => ?_) (fun q2 => ?_)
    · show mjGo _ _ 218 _ _
      have e : wkW as fg dr law aim (I 52) np m l once = false := by
        unfold wkW
        first | (simp [q1, q2]; done) | (simp_all [mClock]; done) | (subst_vars; simp_all [mClock]; done)
      rw [e] at kk
      exact kk
    · show mjGo _ _ 163 _ _
      refine mjGo.run 2 (pc' := (bif decide (once ≠ 0) then 218 else 168)) (F' := ([some (.ref 43), some (.int k), some (.int f), some (.int dr), some (.int w), some (.int law), some (.int as), some (.int fg), some (.int fr), some (.int (nI l)), some (.int wi), some (.int once), some (.int aim), some (.int (nI m)), some (.int 0), some (.int 0)], [], mjH I X)) (fun _ => rfl) ?_
      refine mjGo.br (fun q3 => ?_) (fun q3 => ?_)
      · show mjGo _ _ 218 _ _
        have e : wkW as fg dr law aim (I 52) np m l once = false := by
          unfold wkW
          first | (simp [q1, q2, q3]; done) | (simp_all [mClock]; done) | (subst_vars; simp_all [mClock]; done)
        rw [e] at kk
        exact kk
      · show mjGo _ _ 168 _ _
        refine mjGo.run 3 (pc' := 173) (F' := ([some (.ref 43), some (.int k), some (.int f), some (.int dr), some (.int w), some (.int law), some (.int as), some (.int fg), some (.int fr), some (.int (nI l)), some (.int wi), some (.int once), some (.int aim), some (.int (nI m)), some (.int 0), some (.int 0)], [.int (nI m), .int (nI l), .int dr], mjH I X)) (fun _ => rfl) ?_
        refine mjGo.call (n := 3) (j := 146) (nx := 176) (o := some (.int (mTho dr (nI l) (nI m)))) (h' := mjH I X) (fun _ => rfl) (c_mTho d dr (nI l) (nI m) _) ?_
        show mjGo _ _ 176 ([some (.ref 43), some (.int k), some (.int f), some (.int dr), some (.int w), some (.int law), some (.int as), some (.int fg), some (.int fr), some (.int (nI l)), some (.int wi), some (.int once), some (.int aim), some (.int (nI m)), some (.int 0), some (.int 0)], [.int (mTho dr (nI l) (nI m))], mjH I X) _
        refine mjGo.run 6 (pc' := (bif decide ((mTho dr (nI l) (nI m)) < (aim - (5 * fg))) then 218 else 186)) (F' := ([some (.ref 43), some (.int k), some (.int f), some (.int dr), some (.int w), some (.int law), some (.int as), some (.int fg), some (.int fr), some (.int (nI l)), some (.int wi), some (.int once), some (.int aim), some (.int (nI m)), some (.int 0), some (.int 0)], [], mjH I X)) (fun _ => rfl) ?_
        refine mjGo.br (fun q4 => ?_) (fun q4 => ?_)
        · show mjGo _ _ 218 _ _
          have e : wkW as fg dr law aim (I 52) np m l once = false := by
            unfold wkW
            first | (simp [q1, q2, q3, q4]; done) | (simp_all [mClock]; done) | (subst_vars; simp_all [mClock]; done)
          rw [e] at kk
          exact kk
        · show mjGo _ _ 186 _ _
          refine mjGo.run 3 (pc' := (bif decide (as = 3) then 199 else 192)) (F' := ([some (.ref 43), some (.int k), some (.int f), some (.int dr), some (.int w), some (.int law), some (.int as), some (.int fg), some (.int fr), some (.int (nI l)), some (.int wi), some (.int once), some (.int aim), some (.int (nI m)), some (.int 0), some (.int 0)], [], mjH I X)) (fun _ => rfl) ?_
          refine mjGo.br (fun q5 => ?_) (fun q5 => ?_)
          · show mjGo _ _ 199 _ _
            refine mjGo.run 2 (pc' := 203) (F' := ([some (.ref 43), some (.int k), some (.int f), some (.int dr), some (.int w), some (.int law), some (.int as), some (.int fg), some (.int fr), some (.int (nI l)), some (.int wi), some (.int once), some (.int aim), some (.int (nI m)), some (.int 0), some (.int 0)], [.int (nI m), .int law], mjH I X)) (fun _ => rfl) ?_
            refine mjGo.call (n := 2) (j := 139) (nx := 206) (o := some (.int (mPrice law (nI m)))) (h' := mjH I X) (fun _ => rfl) (c_mPrice d law (nI m) _) ?_
            show mjGo _ _ 206 ([some (.ref 43), some (.int k), some (.int f), some (.int dr), some (.int w), some (.int law), some (.int as), some (.int fg), some (.int fr), some (.int (nI l)), some (.int wi), some (.int once), some (.int aim), some (.int (nI m)), some (.int 0), some (.int 0)], [.int (mPrice law (nI m))], mjH I X) _
            refine mjGo.run 2 (pc' := (bif decide (fg < (mPrice law (nI m))) then 215 else 211)) (F' := ([some (.ref 43), some (.int k), some (.int f), some (.int dr), some (.int w), some (.int law), some (.int as), some (.int fg), some (.int fr), some (.int (nI l)), some (.int wi), some (.int once), some (.int aim), some (.int (nI m)), some (.int 0), some (.int 0)], [], mjH I X)) (fun _ => rfl) ?_
            refine mjGo.br (fun q6 => ?_) (fun q6 => ?_)
            · show mjGo _ _ 215 _ _
              refine mjGo.run 2 (pc' := 218) (F' := ([some (.ref 43), some (.int k), some (.int f), some (.int dr), some (.int w), some (.int law), some (.int as), some (.int fg), some (.int fr), some (.int (nI l)), some (.int wi), some (.int once), some (.int aim), some (.int (nI m)), some (.int 0), some (.int 0)], [], mjH I X)) (fun _ => rfl) ?_
              have e : wkW as fg dr law aim (I 52) np m l once = false := by
                unfold wkW
                first | (simp [q1, q2, q3, q4, q5, q6]; done) | (simp_all [mClock]; done) | (subst_vars; simp_all [mClock]; done)
              rw [e] at kk
              exact kk
            · show mjGo _ _ 211 _ _
              refine mjGo.run 3 (pc' := 218) (F' := ([some (.ref 43), some (.int k), some (.int f), some (.int dr), some (.int w), some (.int law), some (.int as), some (.int fg), some (.int fr), some (.int (nI l)), some (.int wi), some (.int once), some (.int aim), some (.int (nI m)), some (.int 0), some (.int 1)], [], mjH I X)) (fun _ => rfl) ?_
              have e : wkW as fg dr law aim (I 52) np m l once = true := by
                unfold wkW
                first | (simp [q1, q2, q3, q4, q5, q6]; done) | (simp_all [mClock]; done) | (subst_vars; simp_all [mClock]; done)
              rw [e] at kk
              exact kk
          · show mjGo _ _ 192 _ _
            refine mjGo.run 3 (pc' := (bif decide (as ≠ 7) then 211 else 199)) (F' := ([some (.ref 43), some (.int k), some (.int f), some (.int dr), some (.int w), some (.int law), some (.int as), some (.int fg), some (.int fr), some (.int (nI l)), some (.int wi), some (.int once), some (.int aim), some (.int (nI m)), some (.int 0), some (.int 0)], [], mjH I X)) (fun _ => rfl) ?_
            refine mjGo.br (fun q7 => ?_) (fun q7 => ?_)
            · show mjGo _ _ 211 _ _
              refine mjGo.run 3 (pc' := 218) (F' := ([some (.ref 43), some (.int k), some (.int f), some (.int dr), some (.int w), some (.int law), some (.int as), some (.int fg), some (.int fr), some (.int (nI l)), some (.int wi), some (.int once), some (.int aim), some (.int (nI m)), some (.int 0), some (.int 1)], [], mjH I X)) (fun _ => rfl) ?_
              have e : wkW as fg dr law aim (I 52) np m l once = true := by
                unfold wkW
                first | (simp [q1, q2, q3, q4, q5, q7]; done) | (simp_all [mClock]; done) | (subst_vars; simp_all [mClock]; done)
              rw [e] at kk
              exact kk
            · show mjGo _ _ 199 _ _
              refine mjGo.run 2 (pc' := 203) (F' := ([some (.ref 43), some (.int k), some (.int f), some (.int dr), some (.int w), some (.int law), some (.int as), some (.int fg), some (.int fr), some (.int (nI l)), some (.int wi), some (.int once), some (.int aim), some (.int (nI m)), some (.int 0), some (.int 0)], [.int (nI m), .int law], mjH I X)) (fun _ => rfl) ?_
              refine mjGo.call (n := 2) (j := 139) (nx := 206) (o := some (.int (mPrice law (nI m)))) (h' := mjH I X) (fun _ => rfl) (c_mPrice d law (nI m) _) ?_
              show mjGo _ _ 206 ([some (.ref 43), some (.int k), some (.int f), some (.int dr), some (.int w), some (.int law), some (.int as), some (.int fg), some (.int fr), some (.int (nI l)), some (.int wi), some (.int once), some (.int aim), some (.int (nI m)), some (.int 0), some (.int 0)], [.int (mPrice law (nI m))], mjH I X) _
              refine mjGo.run 2 (pc' := (bif decide (fg < (mPrice law (nI m))) then 215 else 211)) (F' := ([some (.ref 43), some (.int k), some (.int f), some (.int dr), some (.int w), some (.int law), some (.int as), some (.int fg), some (.int fr), some (.int (nI l)), some (.int wi), some (.int once), some (.int aim), some (.int (nI m)), some (.int 0), some (.int 0)], [], mjH I X)) (fun _ => rfl) ?_
              refine mjGo.br (fun q8 => ?_) (fun q8 => ?_)
              · show mjGo _ _ 215 _ _
                refine mjGo.run 2 (pc' := 218) (F' := ([some (.ref 43), some (.int k), some (.int f), some (.int dr), some (.int w), some (.int law), some (.int as), some (.int fg), some (.int fr), some (.int (nI l)), some (.int wi), some (.int once), some (.int aim), some (.int (nI m)), some (.int 0), some (.int 0)], [], mjH I X)) (fun _ => rfl) ?_
                have e : wkW as fg dr law aim (I 52) np m l once = false := by
                  unfold wkW
                  first | (simp [q1, q2, q3, q4, q5, q7, q8]; done) | (simp_all [mClock]; done) | (subst_vars; simp_all [mClock]; done)
                rw [e] at kk
                exact kk
              · show mjGo _ _ 211 _ _
                refine mjGo.run 3 (pc' := 218) (F' := ([some (.ref 43), some (.int k), some (.int f), some (.int dr), some (.int w), some (.int law), some (.int as), some (.int fg), some (.int fr), some (.int (nI l)), some (.int wi), some (.int once), some (.int aim), some (.int (nI m)), some (.int 0), some (.int 1)], [], mjH I X)) (fun _ => rfl) ?_
                have e : wkW as fg dr law aim (I 52) np m l once = true := by
                  unfold wkW
                  first | (simp [q1, q2, q3, q4, q5, q7, q8]; done) | (simp_all [mClock]; done) | (subst_vars; simp_all [mClock]; done)
                rw [e] at kk
                exact kk
  · show mjGo _ _ 139 _ _
    refine mjGo.run 2 (pc' := 142) (F' := ([some (.ref 43), some (.int k), some (.int f), some (.int dr), some (.int w), some (.int law), some (.int as), some (.int fg), some (.int fr), some (.int (nI l)), some (.int wi), some (.int once), some (.int aim), some (.int (nI m)), some (.int 0), o15], [.int (nI m), .ref 43], mjH I X)) (fun _ => rfl) ?_
    refine mjGo.call (n := 2) (j := 148) (nx := 145) (o := some (.int (mPl (I 52) (nI m) np))) (h' := mjH I X) (fun _ => rfl) (c_mPl d (nI m) hnp hnp8) ?_
    show mjGo _ _ 145 ([some (.ref 43), some (.int k), some (.int f), some (.int dr), some (.int w), some (.int law), some (.int as), some (.int fg), some (.int fr), some (.int (nI l)), some (.int wi), some (.int once), some (.int aim), some (.int (nI m)), some (.int 0), o15], [.int (mPl (I 52) (nI m) np)], mjH I X) _
    refine mjGo.run 1 (pc' := (bif decide ((mPl (I 52) (nI m) np) = 0) then 152 else 148)) (F' := ([some (.ref 43), some (.int k), some (.int f), some (.int dr), some (.int w), some (.int law), some (.int as), some (.int fg), some (.int fr), some (.int (nI l)), some (.int wi), some (.int once), some (.int aim), some (.int (nI m)), some (.int 0), o15], [], mjH I X)) (fun _ => rfl) ?_
    refine mjGo.br (fun q9 => ?_) (fun q9 => ?_)
    · show mjGo _ _ 152 _ _
      refine mjGo.run 3 (pc' := 157) (F' := ([some (.ref 43), some (.int k), some (.int f), some (.int dr), some (.int w), some (.int law), some (.int as), some (.int fg), some (.int fr), some (.int (nI l)), some (.int wi), some (.int once), some (.int aim), some (.int (nI m)), some (.int 0), some (.int 0)], [.int as], mjH I X)) (fun _ => rfl) ?_
      refine mjGo.call (n := 1) (j := 149) (nx := 160) (o := some (.int (mClock as))) (h' := mjH I X) (fun _ => rfl) (c_mClock d as _) ?_
      show mjGo _ _ 160 ([some (.ref 43), some (.int k), some (.int f), some (.int dr), some (.int w), some (.int law), some (.int as), some (.int fg), some (.int fr), some (.int (nI l)), some (.int wi), some (.int once), some (.int aim), some (.int (nI m)), some (.int 0), some (.int 0)], [.int (mClock as)], mjH I X) _
      refine mjGo.run 1 (pc' := (bif decide ((mClock as) = 0) then 218 else 163)) (F' := ([some (.ref 43), some (.int k), some (.int f), some (.int dr), some (.int w), some (.int law), some (.int as), some (.int fg), some (.int fr), some (.int (nI l)), some (.int wi), some (.int once), some (.int aim), some (.int (nI m)), some (.int 0), some (.int 0)], [], mjH I X)) (fun _ => rfl) ?_
      refine mjGo.br (fun q10 => ?_) (fun q10 => ?_)
      · show mjGo _ _ 218 _ _
        have e : wkW as fg dr law aim (I 52) np m l once = false := by
          unfold wkW
          first | (simp [q1, q9, q10]; done) | (simp_all [mClock]; done) | (subst_vars; simp_all [mClock]; done)
        rw [e] at kk
        exact kk
      · show mjGo _ _ 163 _ _
        refine mjGo.run 2 (pc' := (bif decide (once ≠ 0) then 218 else 168)) (F' := ([some (.ref 43), some (.int k), some (.int f), some (.int dr), some (.int w), some (.int law), some (.int as), some (.int fg), some (.int fr), some (.int (nI l)), some (.int wi), some (.int once), some (.int aim), some (.int (nI m)), some (.int 0), some (.int 0)], [], mjH I X)) (fun _ => rfl) ?_
        refine mjGo.br (fun q11 => ?_) (fun q11 => ?_)
        · show mjGo _ _ 218 _ _
          have e : wkW as fg dr law aim (I 52) np m l once = false := by
            unfold wkW
            first | (simp [q1, q9, q10, q11]; done) | (simp_all [mClock]; done) | (subst_vars; simp_all [mClock]; done)
          rw [e] at kk
          exact kk
        · show mjGo _ _ 168 _ _
          refine mjGo.run 3 (pc' := 173) (F' := ([some (.ref 43), some (.int k), some (.int f), some (.int dr), some (.int w), some (.int law), some (.int as), some (.int fg), some (.int fr), some (.int (nI l)), some (.int wi), some (.int once), some (.int aim), some (.int (nI m)), some (.int 0), some (.int 0)], [.int (nI m), .int (nI l), .int dr], mjH I X)) (fun _ => rfl) ?_
          refine mjGo.call (n := 3) (j := 146) (nx := 176) (o := some (.int (mTho dr (nI l) (nI m)))) (h' := mjH I X) (fun _ => rfl) (c_mTho d dr (nI l) (nI m) _) ?_
          show mjGo _ _ 176 ([some (.ref 43), some (.int k), some (.int f), some (.int dr), some (.int w), some (.int law), some (.int as), some (.int fg), some (.int fr), some (.int (nI l)), some (.int wi), some (.int once), some (.int aim), some (.int (nI m)), some (.int 0), some (.int 0)], [.int (mTho dr (nI l) (nI m))], mjH I X) _
          refine mjGo.run 6 (pc' := (bif decide ((mTho dr (nI l) (nI m)) < (aim - (5 * fg))) then 218 else 186)) (F' := ([some (.ref 43), some (.int k), some (.int f), some (.int dr), some (.int w), some (.int law), some (.int as), some (.int fg), some (.int fr), some (.int (nI l)), some (.int wi), some (.int once), some (.int aim), some (.int (nI m)), some (.int 0), some (.int 0)], [], mjH I X)) (fun _ => rfl) ?_
          refine mjGo.br (fun q12 => ?_) (fun q12 => ?_)
          · show mjGo _ _ 218 _ _
            have e : wkW as fg dr law aim (I 52) np m l once = false := by
              unfold wkW
              first | (simp [q1, q9, q10, q11, q12]; done) | (simp_all [mClock]; done) | (subst_vars; simp_all [mClock]; done)
            rw [e] at kk
            exact kk
          · show mjGo _ _ 186 _ _
            refine mjGo.run 3 (pc' := (bif decide (as = 3) then 199 else 192)) (F' := ([some (.ref 43), some (.int k), some (.int f), some (.int dr), some (.int w), some (.int law), some (.int as), some (.int fg), some (.int fr), some (.int (nI l)), some (.int wi), some (.int once), some (.int aim), some (.int (nI m)), some (.int 0), some (.int 0)], [], mjH I X)) (fun _ => rfl) ?_
            refine mjGo.br (fun q13 => ?_) (fun q13 => ?_)
            · show mjGo _ _ 199 _ _
              refine mjGo.run 2 (pc' := 203) (F' := ([some (.ref 43), some (.int k), some (.int f), some (.int dr), some (.int w), some (.int law), some (.int as), some (.int fg), some (.int fr), some (.int (nI l)), some (.int wi), some (.int once), some (.int aim), some (.int (nI m)), some (.int 0), some (.int 0)], [.int (nI m), .int law], mjH I X)) (fun _ => rfl) ?_
              refine mjGo.call (n := 2) (j := 139) (nx := 206) (o := some (.int (mPrice law (nI m)))) (h' := mjH I X) (fun _ => rfl) (c_mPrice d law (nI m) _) ?_
              show mjGo _ _ 206 ([some (.ref 43), some (.int k), some (.int f), some (.int dr), some (.int w), some (.int law), some (.int as), some (.int fg), some (.int fr), some (.int (nI l)), some (.int wi), some (.int once), some (.int aim), some (.int (nI m)), some (.int 0), some (.int 0)], [.int (mPrice law (nI m))], mjH I X) _
              refine mjGo.run 2 (pc' := (bif decide (fg < (mPrice law (nI m))) then 215 else 211)) (F' := ([some (.ref 43), some (.int k), some (.int f), some (.int dr), some (.int w), some (.int law), some (.int as), some (.int fg), some (.int fr), some (.int (nI l)), some (.int wi), some (.int once), some (.int aim), some (.int (nI m)), some (.int 0), some (.int 0)], [], mjH I X)) (fun _ => rfl) ?_
              refine mjGo.br (fun q14 => ?_) (fun q14 => ?_)
              · show mjGo _ _ 215 _ _
                refine mjGo.run 2 (pc' := 218) (F' := ([some (.ref 43), some (.int k), some (.int f), some (.int dr), some (.int w), some (.int law), some (.int as), some (.int fg), some (.int fr), some (.int (nI l)), some (.int wi), some (.int once), some (.int aim), some (.int (nI m)), some (.int 0), some (.int 0)], [], mjH I X)) (fun _ => rfl) ?_
                have e : wkW as fg dr law aim (I 52) np m l once = false := by
                  unfold wkW
                  first | (simp [q1, q9, q10, q11, q12, q13, q14]; done) | (simp_all [mClock]; done) | (subst_vars; simp_all [mClock]; done)
                rw [e] at kk
                exact kk
              · show mjGo _ _ 211 _ _
                refine mjGo.run 3 (pc' := 218) (F' := ([some (.ref 43), some (.int k), some (.int f), some (.int dr), some (.int w), some (.int law), some (.int as), some (.int fg), some (.int fr), some (.int (nI l)), some (.int wi), some (.int once), some (.int aim), some (.int (nI m)), some (.int 0), some (.int 1)], [], mjH I X)) (fun _ => rfl) ?_
                have e : wkW as fg dr law aim (I 52) np m l once = true := by
                  unfold wkW
                  first | (simp [q1, q9, q10, q11, q12, q13, q14]; done) | (simp_all [mClock]; done) | (subst_vars; simp_all [mClock]; done)
                rw [e] at kk
                exact kk
            · show mjGo _ _ 192 _ _
              refine mjGo.run 3 (pc' := (bif decide (as ≠ 7) then 211 else 199)) (F' := ([some (.ref 43), some (.int k), some (.int f), some (.int dr), some (.int w), some (.int law), some (.int as), some (.int fg), some (.int fr), some (.int (nI l)), some (.int wi), some (.int once), some (.int aim), some (.int (nI m)), some (.int 0), some (.int 0)], [], mjH I X)) (fun _ => rfl) ?_
              refine mjGo.br (fun q15 => ?_) (fun q15 => ?_)
              · show mjGo _ _ 211 _ _
                refine mjGo.run 3 (pc' := 218) (F' := ([some (.ref 43), some (.int k), some (.int f), some (.int dr), some (.int w), some (.int law), some (.int as), some (.int fg), some (.int fr), some (.int (nI l)), some (.int wi), some (.int once), some (.int aim), some (.int (nI m)), some (.int 0), some (.int 1)], [], mjH I X)) (fun _ => rfl) ?_
                have e : wkW as fg dr law aim (I 52) np m l once = true := by
                  unfold wkW
                  first | (simp [q1, q9, q10, q11, q12, q13, q15]; done) | (simp_all [mClock]; done) | (subst_vars; simp_all [mClock]; done)
                rw [e] at kk
                exact kk
              · show mjGo _ _ 199 _ _
                refine mjGo.run 2 (pc' := 203) (F' := ([some (.ref 43), some (.int k), some (.int f), some (.int dr), some (.int w), some (.int law), some (.int as), some (.int fg), some (.int fr), some (.int (nI l)), some (.int wi), some (.int once), some (.int aim), some (.int (nI m)), some (.int 0), some (.int 0)], [.int (nI m), .int law], mjH I X)) (fun _ => rfl) ?_
                refine mjGo.call (n := 2) (j := 139) (nx := 206) (o := some (.int (mPrice law (nI m)))) (h' := mjH I X) (fun _ => rfl) (c_mPrice d law (nI m) _) ?_
                show mjGo _ _ 206 ([some (.ref 43), some (.int k), some (.int f), some (.int dr), some (.int w), some (.int law), some (.int as), some (.int fg), some (.int fr), some (.int (nI l)), some (.int wi), some (.int once), some (.int aim), some (.int (nI m)), some (.int 0), some (.int 0)], [.int (mPrice law (nI m))], mjH I X) _
                refine mjGo.run 2 (pc' := (bif decide (fg < (mPrice law (nI m))) then 215 else 211)) (F' := ([some (.ref 43), some (.int k), some (.int f), some (.int dr), some (.int w), some (.int law), some (.int as), some (.int fg), some (.int fr), some (.int (nI l)), some (.int wi), some (.int once), some (.int aim), some (.int (nI m)), some (.int 0), some (.int 0)], [], mjH I X)) (fun _ => rfl) ?_
                refine mjGo.br (fun q16 => ?_) (fun q16 => ?_)
                · show mjGo _ _ 215 _ _
                  refine mjGo.run 2 (pc' := 218) (F' := ([some (.ref 43), some (.int k), some (.int f), some (.int dr), some (.int w), some (.int law), some (.int as), some (.int fg), some (.int fr), some (.int (nI l)), some (.int wi), some (.int once), some (.int aim), some (.int (nI m)), some (.int 0), some (.int 0)], [], mjH I X)) (fun _ => rfl) ?_
                  have e : wkW as fg dr law aim (I 52) np m l once = false := by
                    unfold wkW
                    first | (simp [q1, q9, q10, q11, q12, q13, q15, q16]; done) | (simp_all [mClock]; done) | (subst_vars; simp_all [mClock]; done)
                  rw [e] at kk
                  exact kk
                · show mjGo _ _ 211 _ _
                  refine mjGo.run 3 (pc' := 218) (F' := ([some (.ref 43), some (.int k), some (.int f), some (.int dr), some (.int w), some (.int law), some (.int as), some (.int fg), some (.int fr), some (.int (nI l)), some (.int wi), some (.int once), some (.int aim), some (.int (nI m)), some (.int 0), some (.int 1)], [], mjH I X)) (fun _ => rfl) ?_
                  have e : wkW as fg dr law aim (I 52) np m l once = true := by
                    unfold wkW
                    first | (simp [q1, q9, q10, q11, q12, q13, q15, q16]; done) | (simp_all [mClock]; done) | (subst_vars; simp_all [mClock]; done)
                  rw [e] at kk
                  exact kk
    · show mjGo _ _ 148 _ _
      refine mjGo.run 4 (pc' := 157) (F' := ([some (.ref 43), some (.int k), some (.int f), some (.int dr), some (.int w), some (.int law), some (.int as), some (.int fg), some (.int fr), some (.int (nI l)), some (.int wi), some (.int once), some (.int aim), some (.int (nI m)), some (.int 0), some (.int 1)], [.int as], mjH I X)) (fun _ => rfl) ?_
      refine mjGo.call (n := 1) (j := 149) (nx := 160) (o := some (.int (mClock as))) (h' := mjH I X) (fun _ => rfl) (c_mClock d as _) ?_
      show mjGo _ _ 160 ([some (.ref 43), some (.int k), some (.int f), some (.int dr), some (.int w), some (.int law), some (.int as), some (.int fg), some (.int fr), some (.int (nI l)), some (.int wi), some (.int once), some (.int aim), some (.int (nI m)), some (.int 0), some (.int 1)], [.int (mClock as)], mjH I X) _
      refine mjGo.run 1 (pc' := (bif decide ((mClock as) = 0) then 218 else 163)) (F' := ([some (.ref 43), some (.int k), some (.int f), some (.int dr), some (.int w), some (.int law), some (.int as), some (.int fg), some (.int fr), some (.int (nI l)), some (.int wi), some (.int once), some (.int aim), some (.int (nI m)), some (.int 0), some (.int 1)], [], mjH I X)) (fun _ => rfl) ?_
      refine mjGo.br (fun q17 => ?_) (fun q17 => ?_)
      · show mjGo _ _ 218 _ _
        have e : wkW as fg dr law aim (I 52) np m l once = true := by
          unfold wkW
          first | (simp [q1, q9, q17]; done) | (simp_all [mClock]; done) | (subst_vars; simp_all [mClock]; done)
        rw [e] at kk
        exact kk
      · show mjGo _ _ 163 _ _
        refine mjGo.run 2 (pc' := (bif decide (once ≠ 0) then 218 else 168)) (F' := ([some (.ref 43), some (.int k), some (.int f), some (.int dr), some (.int w), some (.int law), some (.int as), some (.int fg), some (.int fr), some (.int (nI l)), some (.int wi), some (.int once), some (.int aim), some (.int (nI m)), some (.int 0), some (.int 1)], [], mjH I X)) (fun _ => rfl) ?_
        refine mjGo.br (fun q18 => ?_) (fun q18 => ?_)
        · show mjGo _ _ 218 _ _
          have e : wkW as fg dr law aim (I 52) np m l once = true := by
            unfold wkW
            first | (simp [q1, q9, q17, q18]; done) | (simp_all [mClock]; done) | (subst_vars; simp_all [mClock]; done)
          rw [e] at kk
          exact kk
        · show mjGo _ _ 168 _ _
          refine mjGo.run 3 (pc' := 173) (F' := ([some (.ref 43), some (.int k), some (.int f), some (.int dr), some (.int w), some (.int law), some (.int as), some (.int fg), some (.int fr), some (.int (nI l)), some (.int wi), some (.int once), some (.int aim), some (.int (nI m)), some (.int 0), some (.int 1)], [.int (nI m), .int (nI l), .int dr], mjH I X)) (fun _ => rfl) ?_
          refine mjGo.call (n := 3) (j := 146) (nx := 176) (o := some (.int (mTho dr (nI l) (nI m)))) (h' := mjH I X) (fun _ => rfl) (c_mTho d dr (nI l) (nI m) _) ?_
          show mjGo _ _ 176 ([some (.ref 43), some (.int k), some (.int f), some (.int dr), some (.int w), some (.int law), some (.int as), some (.int fg), some (.int fr), some (.int (nI l)), some (.int wi), some (.int once), some (.int aim), some (.int (nI m)), some (.int 0), some (.int 1)], [.int (mTho dr (nI l) (nI m))], mjH I X) _
          refine mjGo.run 6 (pc' := (bif decide ((mTho dr (nI l) (nI m)) < (aim - (5 * fg))) then 218 else 186)) (F' := ([some (.ref 43), some (.int k), some (.int f), some (.int dr), some (.int w), some (.int law), some (.int as), some (.int fg), some (.int fr), some (.int (nI l)), some (.int wi), some (.int once), some (.int aim), some (.int (nI m)), some (.int 0), some (.int 1)], [], mjH I X)) (fun _ => rfl) ?_
          refine mjGo.br (fun q19 => ?_) (fun q19 => ?_)
          · show mjGo _ _ 218 _ _
            have e : wkW as fg dr law aim (I 52) np m l once = true := by
              unfold wkW
              first | (simp [q1, q9, q17, q18, q19]; done) | (simp_all [mClock]; done) | (subst_vars; simp_all [mClock]; done)
            rw [e] at kk
            exact kk
          · show mjGo _ _ 186 _ _
            refine mjGo.run 3 (pc' := (bif decide (as = 3) then 199 else 192)) (F' := ([some (.ref 43), some (.int k), some (.int f), some (.int dr), some (.int w), some (.int law), some (.int as), some (.int fg), some (.int fr), some (.int (nI l)), some (.int wi), some (.int once), some (.int aim), some (.int (nI m)), some (.int 0), some (.int 1)], [], mjH I X)) (fun _ => rfl) ?_
            refine mjGo.br (fun q20 => ?_) (fun q20 => ?_)
            · show mjGo _ _ 199 _ _
              refine mjGo.run 2 (pc' := 203) (F' := ([some (.ref 43), some (.int k), some (.int f), some (.int dr), some (.int w), some (.int law), some (.int as), some (.int fg), some (.int fr), some (.int (nI l)), some (.int wi), some (.int once), some (.int aim), some (.int (nI m)), some (.int 0), some (.int 1)], [.int (nI m), .int law], mjH I X)) (fun _ => rfl) ?_
              refine mjGo.call (n := 2) (j := 139) (nx := 206) (o := some (.int (mPrice law (nI m)))) (h' := mjH I X) (fun _ => rfl) (c_mPrice d law (nI m) _) ?_
              show mjGo _ _ 206 ([some (.ref 43), some (.int k), some (.int f), some (.int dr), some (.int w), some (.int law), some (.int as), some (.int fg), some (.int fr), some (.int (nI l)), some (.int wi), some (.int once), some (.int aim), some (.int (nI m)), some (.int 0), some (.int 1)], [.int (mPrice law (nI m))], mjH I X) _
              refine mjGo.run 2 (pc' := (bif decide (fg < (mPrice law (nI m))) then 215 else 211)) (F' := ([some (.ref 43), some (.int k), some (.int f), some (.int dr), some (.int w), some (.int law), some (.int as), some (.int fg), some (.int fr), some (.int (nI l)), some (.int wi), some (.int once), some (.int aim), some (.int (nI m)), some (.int 0), some (.int 1)], [], mjH I X)) (fun _ => rfl) ?_
              refine mjGo.br (fun q21 => ?_) (fun q21 => ?_)
              · show mjGo _ _ 215 _ _
                refine mjGo.run 2 (pc' := 218) (F' := ([some (.ref 43), some (.int k), some (.int f), some (.int dr), some (.int w), some (.int law), some (.int as), some (.int fg), some (.int fr), some (.int (nI l)), some (.int wi), some (.int once), some (.int aim), some (.int (nI m)), some (.int 0), some (.int 0)], [], mjH I X)) (fun _ => rfl) ?_
                have e : wkW as fg dr law aim (I 52) np m l once = false := by
                  unfold wkW
                  first | (simp [q1, q9, q17, q18, q19, q20, q21]; done) | (simp_all [mClock]; done) | (subst_vars; simp_all [mClock]; done)
                rw [e] at kk
                exact kk
              · show mjGo _ _ 211 _ _
                refine mjGo.run 3 (pc' := 218) (F' := ([some (.ref 43), some (.int k), some (.int f), some (.int dr), some (.int w), some (.int law), some (.int as), some (.int fg), some (.int fr), some (.int (nI l)), some (.int wi), some (.int once), some (.int aim), some (.int (nI m)), some (.int 0), some (.int 1)], [], mjH I X)) (fun _ => rfl) ?_
                have e : wkW as fg dr law aim (I 52) np m l once = true := by
                  unfold wkW
                  first | (simp [q1, q9, q17, q18, q19, q20, q21]; done) | (simp_all [mClock]; done) | (subst_vars; simp_all [mClock]; done)
                rw [e] at kk
                exact kk
            · show mjGo _ _ 192 _ _
              refine mjGo.run 3 (pc' := (bif decide (as ≠ 7) then 211 else 199)) (F' := ([some (.ref 43), some (.int k), some (.int f), some (.int dr), some (.int w), some (.int law), some (.int as), some (.int fg), some (.int fr), some (.int (nI l)), some (.int wi), some (.int once), some (.int aim), some (.int (nI m)), some (.int 0), some (.int 1)], [], mjH I X)) (fun _ => rfl) ?_
              refine mjGo.br (fun q22 => ?_) (fun q22 => ?_)
              · show mjGo _ _ 211 _ _
                refine mjGo.run 3 (pc' := 218) (F' := ([some (.ref 43), some (.int k), some (.int f), some (.int dr), some (.int w), some (.int law), some (.int as), some (.int fg), some (.int fr), some (.int (nI l)), some (.int wi), some (.int once), some (.int aim), some (.int (nI m)), some (.int 0), some (.int 1)], [], mjH I X)) (fun _ => rfl) ?_
                have e : wkW as fg dr law aim (I 52) np m l once = true := by
                  unfold wkW
                  first | (simp [q1, q9, q17, q18, q19, q20, q22]; done) | (simp_all [mClock]; done) | (subst_vars; simp_all [mClock]; done)
                rw [e] at kk
                exact kk
              · show mjGo _ _ 199 _ _
                refine mjGo.run 2 (pc' := 203) (F' := ([some (.ref 43), some (.int k), some (.int f), some (.int dr), some (.int w), some (.int law), some (.int as), some (.int fg), some (.int fr), some (.int (nI l)), some (.int wi), some (.int once), some (.int aim), some (.int (nI m)), some (.int 0), some (.int 1)], [.int (nI m), .int law], mjH I X)) (fun _ => rfl) ?_
                refine mjGo.call (n := 2) (j := 139) (nx := 206) (o := some (.int (mPrice law (nI m)))) (h' := mjH I X) (fun _ => rfl) (c_mPrice d law (nI m) _) ?_
                show mjGo _ _ 206 ([some (.ref 43), some (.int k), some (.int f), some (.int dr), some (.int w), some (.int law), some (.int as), some (.int fg), some (.int fr), some (.int (nI l)), some (.int wi), some (.int once), some (.int aim), some (.int (nI m)), some (.int 0), some (.int 1)], [.int (mPrice law (nI m))], mjH I X) _
                refine mjGo.run 2 (pc' := (bif decide (fg < (mPrice law (nI m))) then 215 else 211)) (F' := ([some (.ref 43), some (.int k), some (.int f), some (.int dr), some (.int w), some (.int law), some (.int as), some (.int fg), some (.int fr), some (.int (nI l)), some (.int wi), some (.int once), some (.int aim), some (.int (nI m)), some (.int 0), some (.int 1)], [], mjH I X)) (fun _ => rfl) ?_
                refine mjGo.br (fun q23 => ?_) (fun q23 => ?_)
                · show mjGo _ _ 215 _ _
                  refine mjGo.run 2 (pc' := 218) (F' := ([some (.ref 43), some (.int k), some (.int f), some (.int dr), some (.int w), some (.int law), some (.int as), some (.int fg), some (.int fr), some (.int (nI l)), some (.int wi), some (.int once), some (.int aim), some (.int (nI m)), some (.int 0), some (.int 0)], [], mjH I X)) (fun _ => rfl) ?_
                  have e : wkW as fg dr law aim (I 52) np m l once = false := by
                    unfold wkW
                    first | (simp [q1, q9, q17, q18, q19, q20, q22, q23]; done) | (simp_all [mClock]; done) | (subst_vars; simp_all [mClock]; done)
                  rw [e] at kk
                  exact kk
                · show mjGo _ _ 211 _ _
                  refine mjGo.run 3 (pc' := 218) (F' := ([some (.ref 43), some (.int k), some (.int f), some (.int dr), some (.int w), some (.int law), some (.int as), some (.int fg), some (.int fr), some (.int (nI l)), some (.int wi), some (.int once), some (.int aim), some (.int (nI m)), some (.int 0), some (.int 1)], [], mjH I X)) (fun _ => rfl) ?_
                  have e : wkW as fg dr law aim (I 52) np m l once = true := by
                    unfold wkW
                    first | (simp [q1, q9, q17, q18, q19, q20, q22, q23]; done) | (simp_all [mClock]; done) | (subst_vars; simp_all [mClock]; done)
                  rw [e] at kk
                  exact kk
theorem mSc_add {I : Nat → Nat → Int32} {a : wkA} {p : Int32} {m : Nat} (h : mSc I a) : mSc (mjU (mjU (mjU I 43 19 (I 43 19 + p)) 62 a.2.length (nI m)) 43 20 (I 43 20 + 1)) (a.1 + p, a.2 ++ [m]) := by
  obtain ⟨h1, h2, h3⟩ := h
  refine ⟨?_, ?_, fun i hi => ?_⟩
  · show I 43 19 + p = _
    rw [h1]
  · show I 43 20 + 1 = _
    rw [h2, nI_1]
    simp
  · show (if i = a.2.length then nI m else I 62 i) = _
    by_cases e : i = a.2.length
    · subst e
      rw [if_pos rfl]
      simp
    · have hi : i < a.2.length := by
        simp at hi
        omega
      rw [if_neg e, h3 i hi]
      simp [List.getD, List.getElem?_append_left hi]
theorem m_wk {d np : Nat} {I0 : Nat → Nat → Int32} {X : MX} {k f dr w law as fg aim fr wi : Int32} {r : MO × MH → Prop} (hnp0 : I0 44 2 = nI np) (hnp8 : np ≤ 8) : ∀ (n m l : Nat) (once : Int32) (a : wkA) (I : Nat → Nat → Int32) (o15 : Option Value), m + n = 720 → 0 < n → eqO scw I0 I → mSc I a → (wk as fg dr law aim (I0 52) np n m l once a).2.2.2.length ≤ 15 →
    (∀ (J : Nat → Nat → Int32) (on9 : Int32) (o9 : Option Value), eqO scw I0 J → mSc J (wk as fg dr law aim (I0 52) np n m l once a).2.2 → mjGo (d + 1) nyX12_dayOf 127 ([some (.ref 43), some (.int k), some (.int f), some (.int dr), some (.int w), some (.int law), some (.int as), some (.int fg), some (.int fr), some (.int (nI (wk as fg dr law aim (I0 52) np n m l once a).2.1)), some (.int wi), some (.int on9), some (.int aim), some (.int (nI (wk as fg dr law aim (I0 52) np n m l once a).1)), some (.int 1), o9], [], mjH J X) r) →
    mjGo (d + 1) nyX12_dayOf 127 ([some (.ref 43), some (.int k), some (.int f), some (.int dr), some (.int w), some (.int law), some (.int as), some (.int fg), some (.int fr), some (.int (nI l)), some (.int wi), some (.int once), some (.int aim), some (.int (nI m)), some (.int 0), o15], [], mjH I X) r := by
  intro n
  induction n with
  | zero => intro m l once a I o15 h1 h2; omega
  | succ n ih =>
    intro m l once a I o15 h1 h2 heq hsc hlen kont
    have hrow : I 52 = I0 52 := heq.row (fun _ => rfl)
    have hnp : I 44 2 = nI np := (heq 44 2 rfl).trans hnp0
    have hs2 := hsc.2.1
    refine mjGo.run 2 (pc' := 132) (F' := ([some (.ref 43), some (.int k), some (.int f), some (.int dr), some (.int w), some (.int law), some (.int as), some (.int fg), some (.int fr), some (.int (nI l)), some (.int wi), some (.int once), some (.int aim), some (.int (nI m)), some (.int 0), o15], [], mjH I X)) (fun _ => rfl) ?_
    refine m_would hnp hnp8 ?_
    rw [hrow]
    cases hw : wkW as fg dr law aim (I0 52) np m l once
    · show mjGo _ _ 218 ([some (.ref 43), some (.int k), some (.int f), some (.int dr), some (.int w), some (.int law), some (.int as), some (.int fg), some (.int fr), some (.int (nI l)), some (.int wi), some (.int once), some (.int aim), some (.int (nI m)), some (.int 0), some (.int 0)], [], mjH I X) _
      refine mjGo.run 5 (pc' := (bif decide ((nI m) = 719) then 301 else 280)) (F' := ([some (.ref 43), some (.int k), some (.int f), some (.int dr), some (.int w), some (.int law), some (.int as), some (.int fg), some (.int fr), some (.int (nI l)), some (.int wi), some (.int once), some (.int aim), some (.int (nI m)), some (.int 0), some (.int 0)], [], mjH I X)) (fun _ => rfl) ?_
      refine mjGo.br (fun q1 => ?_) (fun q1 => ?_)
      · show mjGo _ _ 301 _ _
        refine mjGo.run 11 (pc' := 127) (F' := ([some (.ref 43), some (.int k), some (.int f), some (.int dr), some (.int w), some (.int law), some (.int as), some (.int fg), some (.int fr), some (.int (nI l)), some (.int wi), some (.int once), some (.int aim), some (.int ((nI m) + 0)), some (.int 1), some (.int 0)], [], mjH I X)) (fun _ => rfl) ?_
        have e : wkG as fg dr aim m l = true := by
          unfold wkG
          simp [q1]
        have eR : wk as fg dr law aim (I0 52) np (n + 1) m l once a = (m, l, a) := by
          rw [wk, hw]
          dsimp only [cond_true, cond_false]
          rw [e]
          rfl
        rw [eR] at kont
        rw [Int32.add_zero]
        exact kont _ _ _ heq hsc
      · show mjGo _ _ 280 _ _
        refine mjGo.run 3 (pc' := 285) (F' := ([some (.ref 43), some (.int k), some (.int f), some (.int dr), some (.int w), some (.int law), some (.int as), some (.int fg), some (.int fr), some (.int (nI l)), some (.int wi), some (.int once), some (.int aim), some (.int (nI m)), some (.int 0), some (.int 0)], [.int (nI m), .int (nI l), .int dr], mjH I X)) (fun _ => rfl) ?_
        refine mjGo.call (n := 3) (j := 146) (nx := 288) (o := some (.int (mTho dr (nI l) (nI m)))) (h' := mjH I X) (fun _ => rfl) (c_mTho d dr (nI l) (nI m) _) ?_
        show mjGo _ _ 288 ([some (.ref 43), some (.int k), some (.int f), some (.int dr), some (.int w), some (.int law), some (.int as), some (.int fg), some (.int fr), some (.int (nI l)), some (.int wi), some (.int once), some (.int aim), some (.int (nI m)), some (.int 0), some (.int 0)], [.int (mTho dr (nI l) (nI m))], mjH I X) _
        refine mjGo.run 3 (pc' := 294) (F' := ([some (.ref 43), some (.int k), some (.int f), some (.int dr), some (.int w), some (.int law), some (.int as), some (.int fg), some (.int fr), some (.int (nI l)), some (.int wi), some (.int once), some (.int aim), some (.int (nI m)), some (.int 0), some (.int 0)], [.int fg, .int as, .int aim, .int (mTho dr (nI l) (nI m))], mjH I X)) (fun _ => rfl) ?_
        refine mjGo.call (n := 2) (j := 143) (nx := 297) (o := some (.int (mEarly as fg))) (h' := mjH I X) (fun _ => rfl) (c_mEarly d as fg _) ?_
        show mjGo _ _ 297 ([some (.ref 43), some (.int k), some (.int f), some (.int dr), some (.int w), some (.int law), some (.int as), some (.int fg), some (.int fr), some (.int (nI l)), some (.int wi), some (.int once), some (.int aim), some (.int (nI m)), some (.int 0), some (.int 0)], [.int (mEarly as fg), .int aim, .int (mTho dr (nI l) (nI m))], mjH I X) _
        refine mjGo.run 2 (pc' := (bif decide ((mTho dr (nI l) (nI m)) < (aim - (mEarly as fg))) then 305 else 301)) (F' := ([some (.ref 43), some (.int k), some (.int f), some (.int dr), some (.int w), some (.int law), some (.int as), some (.int fg), some (.int fr), some (.int (nI l)), some (.int wi), some (.int once), some (.int aim), some (.int (nI m)), some (.int 0), some (.int 0)], [], mjH I X)) (fun _ => rfl) ?_
        refine mjGo.br (fun q2 => ?_) (fun q2 => ?_)
        · show mjGo _ _ 305 _ _
          refine mjGo.run 9 (pc' := 127) (F' := ([some (.ref 43), some (.int k), some (.int f), some (.int dr), some (.int w), some (.int law), some (.int as), some (.int fg), some (.int fr), some (.int (nI l)), some (.int wi), some (.int once), some (.int aim), some (.int ((nI m) + 1)), some (.int 0), some (.int 0)], [], mjH I X)) (fun _ => rfl) ?_
          have e : wkG as fg dr aim m l = false := by
            unfold wkG
            simp [q1, q2]
          have eR : wk as fg dr law aim (I0 52) np (n + 1) m l once a = wk as fg dr law aim (I0 52) np n (m + 1) l once a := by
            rw [wk, hw]
            dsimp only [cond_true, cond_false]
            rw [e]
            rfl
          rw [eR] at kont hlen
          have hm : m ≠ 719 := fun q => q1 (by rw [q]; rfl)
          rw [nI_1]
          exact ih (m + 1) l once a _ _ (by omega) (by omega) heq hsc hlen kont
        · show mjGo _ _ 301 _ _
          refine mjGo.run 11 (pc' := 127) (F' := ([some (.ref 43), some (.int k), some (.int f), some (.int dr), some (.int w), some (.int law), some (.int as), some (.int fg), some (.int fr), some (.int (nI l)), some (.int wi), some (.int once), some (.int aim), some (.int ((nI m) + 0)), some (.int 1), some (.int 0)], [], mjH I X)) (fun _ => rfl) ?_
          have e : wkG as fg dr aim m l = true := by
            unfold wkG
            simp [q1, q2]
          have eR : wk as fg dr law aim (I0 52) np (n + 1) m l once a = (m, l, a) := by
            rw [wk, hw]
            dsimp only [cond_true, cond_false]
            rw [e]
            rfl
          rw [eR] at kont
          rw [Int32.add_zero]
          exact kont _ _ _ heq hsc
    · show mjGo _ _ 218 ([some (.ref 43), some (.int k), some (.int f), some (.int dr), some (.int w), some (.int law), some (.int as), some (.int fg), some (.int fr), some (.int (nI l)), some (.int wi), some (.int once), some (.int aim), some (.int (nI m)), some (.int 0), some (.int 1)], [], mjH I X) _
      have hl9 : a.2.length + 1 ≤ 15 := by
        refine Nat.le_trans ?_ hlen
        rw [wk, hw]
        dsimp only [cond_true]
        cases wkG as fg dr aim m m
        · refine Nat.le_trans ?_ (wk_len _ _ _ _ _)
          simp
        · simp
      refine mjGo.run 12 (pc' := 241) (F' := ([some (.ref 43), some (.int k), some (.int f), some (.int dr), some (.int w), some (.int law), some (.int as), some (.int fg), some (.int fr), some (.int (nI m)), some (.int wi), some (.int 1), some (.int aim), some (.int (nI m)), some (.int 0), some (.int 1)], [.int (nI m), .int law, .int as, .int (I 43 19), .ref 43], mjH I X)) (fun _ => rfl) ?_
      refine mjGo.call (n := 2) (j := 139) (nx := 244) (o := some (.int (mPrice law (nI m)))) (h' := mjH I X) (fun _ => rfl) (c_mPrice d law (nI m) _) ?_
      show mjGo _ _ 244 ([some (.ref 43), some (.int k), some (.int f), some (.int dr), some (.int w), some (.int law), some (.int as), some (.int fg), some (.int fr), some (.int (nI m)), some (.int wi), some (.int 1), some (.int aim), some (.int (nI m)), some (.int 0), some (.int 1)], [.int (mPrice law (nI m)), .int as, .int (I 43 19), .ref 43], mjH I X) _
      refine mjGo.call (n := 2) (j := 150) (nx := 247) (o := some (.int (mPays as (mPrice law (nI m))))) (h' := mjH I X) (fun _ => rfl) (c_mPays d as (mPrice law (nI m)) _) ?_
      show mjGo _ _ 247 ([some (.ref 43), some (.int k), some (.int f), some (.int dr), some (.int w), some (.int law), some (.int as), some (.int fg), some (.int fr), some (.int (nI m)), some (.int wi), some (.int 1), some (.int aim), some (.int (nI m)), some (.int 0), some (.int 1)], [.int (mPays as (mPrice law (nI m))), .int (I 43 19), .ref 43], mjH I X) _
      refine mjGo.run 7 (pc' := 261) (F' := ([some (.ref 43), some (.int k), some (.int f), some (.int dr), some (.int w), some (.int law), some (.int as), some (.int fg), some (.int fr), some (.int (nI m)), some (.int wi), some (.int 1), some (.int aim), some (.int (nI m)), some (.int 0), some (.int 1)], [.int (nI m), .int (I 43 20), .ref 62], mjH (mjU I 43 19 ((I 43 19) + (mPays as (mPrice law (nI m))))) X)) (fun _ => rfl) ?_
      rw [hs2]
      refine mjGo.op (pc' := 262) (F' := ([some (.ref 43), some (.int k), some (.int f), some (.int dr), some (.int w), some (.int law), some (.int as), some (.int fg), some (.int fr), some (.int (nI m)), some (.int wi), some (.int 1), some (.int aim), some (.int (nI m)), some (.int 0), some (.int 1)], [], mjH (mjU (mjU I 43 19 ((I 43 19) + (mPays as (mPrice law (nI m))))) 62 a.2.length (nI m)) X)) (o := mjiast 262) rfl (fun _ => mjast_n (n := 16) (by omega) (by decide) rfl rfl) ?_
      refine mjGo.run 9 (pc' := (bif decide ((nI m) = 719) then 301 else 280)) (F' := ([some (.ref 43), some (.int k), some (.int f), some (.int dr), some (.int w), some (.int law), some (.int as), some (.int fg), some (.int fr), some (.int (nI m)), some (.int wi), some (.int 1), some (.int aim), some (.int (nI m)), some (.int 0), some (.int 1)], [], mjH (mjU (mjU (mjU I 43 19 ((I 43 19) + (mPays as (mPrice law (nI m))))) 62 a.2.length (nI m)) 43 20 ((I 43 20) + 1)) X)) (fun _ => rfl) ?_
      refine mjGo.br (fun q1 => ?_) (fun q1 => ?_)
      · show mjGo _ _ 301 _ _
        refine mjGo.run 11 (pc' := 127) (F' := ([some (.ref 43), some (.int k), some (.int f), some (.int dr), some (.int w), some (.int law), some (.int as), some (.int fg), some (.int fr), some (.int (nI m)), some (.int wi), some (.int 1), some (.int aim), some (.int ((nI m) + 0)), some (.int 1), some (.int 1)], [], mjH (mjU (mjU (mjU I 43 19 ((I 43 19) + (mPays as (mPrice law (nI m))))) 62 a.2.length (nI m)) 43 20 ((I 43 20) + 1)) X)) (fun _ => rfl) ?_
        have e : wkG as fg dr aim m m = true := by
          unfold wkG
          simp [q1]
        have eR : wk as fg dr law aim (I0 52) np (n + 1) m l once a = (m, m, (a.1 + mPays as (mPrice law (nI m)), a.2 ++ [m])) := by
          rw [wk, hw]
          dsimp only [cond_true, cond_false]
          rw [e]
          rfl
        rw [eR] at kont
        rw [Int32.add_zero]
        exact kont _ _ _ (((heq.put rfl).put rfl).put rfl) (mSc_add hsc)
      · show mjGo _ _ 280 _ _
        refine mjGo.run 3 (pc' := 285) (F' := ([some (.ref 43), some (.int k), some (.int f), some (.int dr), some (.int w), some (.int law), some (.int as), some (.int fg), some (.int fr), some (.int (nI m)), some (.int wi), some (.int 1), some (.int aim), some (.int (nI m)), some (.int 0), some (.int 1)], [.int (nI m), .int (nI m), .int dr], mjH (mjU (mjU (mjU I 43 19 ((I 43 19) + (mPays as (mPrice law (nI m))))) 62 a.2.length (nI m)) 43 20 ((I 43 20) + 1)) X)) (fun _ => rfl) ?_
        refine mjGo.call (n := 3) (j := 146) (nx := 288) (o := some (.int (mTho dr (nI m) (nI m)))) (h' := mjH (mjU (mjU (mjU I 43 19 ((I 43 19) + (mPays as (mPrice law (nI m))))) 62 a.2.length (nI m)) 43 20 ((I 43 20) + 1)) X) (fun _ => rfl) (c_mTho d dr (nI m) (nI m) _) ?_
        show mjGo _ _ 288 ([some (.ref 43), some (.int k), some (.int f), some (.int dr), some (.int w), some (.int law), some (.int as), some (.int fg), some (.int fr), some (.int (nI m)), some (.int wi), some (.int 1), some (.int aim), some (.int (nI m)), some (.int 0), some (.int 1)], [.int (mTho dr (nI m) (nI m))], mjH (mjU (mjU (mjU I 43 19 ((I 43 19) + (mPays as (mPrice law (nI m))))) 62 a.2.length (nI m)) 43 20 ((I 43 20) + 1)) X) _
        refine mjGo.run 3 (pc' := 294) (F' := ([some (.ref 43), some (.int k), some (.int f), some (.int dr), some (.int w), some (.int law), some (.int as), some (.int fg), some (.int fr), some (.int (nI m)), some (.int wi), some (.int 1), some (.int aim), some (.int (nI m)), some (.int 0), some (.int 1)], [.int fg, .int as, .int aim, .int (mTho dr (nI m) (nI m))], mjH (mjU (mjU (mjU I 43 19 ((I 43 19) + (mPays as (mPrice law (nI m))))) 62 a.2.length (nI m)) 43 20 ((I 43 20) + 1)) X)) (fun _ => rfl) ?_
        refine mjGo.call (n := 2) (j := 143) (nx := 297) (o := some (.int (mEarly as fg))) (h' := mjH (mjU (mjU (mjU I 43 19 ((I 43 19) + (mPays as (mPrice law (nI m))))) 62 a.2.length (nI m)) 43 20 ((I 43 20) + 1)) X) (fun _ => rfl) (c_mEarly d as fg _) ?_
        show mjGo _ _ 297 ([some (.ref 43), some (.int k), some (.int f), some (.int dr), some (.int w), some (.int law), some (.int as), some (.int fg), some (.int fr), some (.int (nI m)), some (.int wi), some (.int 1), some (.int aim), some (.int (nI m)), some (.int 0), some (.int 1)], [.int (mEarly as fg), .int aim, .int (mTho dr (nI m) (nI m))], mjH (mjU (mjU (mjU I 43 19 ((I 43 19) + (mPays as (mPrice law (nI m))))) 62 a.2.length (nI m)) 43 20 ((I 43 20) + 1)) X) _
        refine mjGo.run 2 (pc' := (bif decide ((mTho dr (nI m) (nI m)) < (aim - (mEarly as fg))) then 305 else 301)) (F' := ([some (.ref 43), some (.int k), some (.int f), some (.int dr), some (.int w), some (.int law), some (.int as), some (.int fg), some (.int fr), some (.int (nI m)), some (.int wi), some (.int 1), some (.int aim), some (.int (nI m)), some (.int 0), some (.int 1)], [], mjH (mjU (mjU (mjU I 43 19 ((I 43 19) + (mPays as (mPrice law (nI m))))) 62 a.2.length (nI m)) 43 20 ((I 43 20) + 1)) X)) (fun _ => rfl) ?_
        refine mjGo.br (fun q2 => ?_) (fun q2 => ?_)
        · show mjGo _ _ 305 _ _
          refine mjGo.run 9 (pc' := 127) (F' := ([some (.ref 43), some (.int k), some (.int f), some (.int dr), some (.int w), some (.int law), some (.int as), some (.int fg), some (.int fr), some (.int (nI m)), some (.int wi), some (.int 1), some (.int aim), some (.int ((nI m) + 1)), some (.int 0), some (.int 1)], [], mjH (mjU (mjU (mjU I 43 19 ((I 43 19) + (mPays as (mPrice law (nI m))))) 62 a.2.length (nI m)) 43 20 ((I 43 20) + 1)) X)) (fun _ => rfl) ?_
          have e : wkG as fg dr aim m m = false := by
            unfold wkG
            simp [q1, q2]
          have eR : wk as fg dr law aim (I0 52) np (n + 1) m l once a = wk as fg dr law aim (I0 52) np n (m + 1) m 1 (a.1 + mPays as (mPrice law (nI m)), a.2 ++ [m]) := by
            rw [wk, hw]
            dsimp only [cond_true, cond_false]
            rw [e]
            rfl
          rw [eR] at kont hlen
          have hm : m ≠ 719 := fun q => q1 (by rw [q]; rfl)
          rw [nI_1]
          exact ih (m + 1) m 1 (a.1 + mPays as (mPrice law (nI m)), a.2 ++ [m]) _ _ (by omega) (by omega) (((heq.put rfl).put rfl).put rfl) (mSc_add hsc) hlen kont
        · show mjGo _ _ 301 _ _
          refine mjGo.run 11 (pc' := 127) (F' := ([some (.ref 43), some (.int k), some (.int f), some (.int dr), some (.int w), some (.int law), some (.int as), some (.int fg), some (.int fr), some (.int (nI m)), some (.int wi), some (.int 1), some (.int aim), some (.int ((nI m) + 0)), some (.int 1), some (.int 1)], [], mjH (mjU (mjU (mjU I 43 19 ((I 43 19) + (mPays as (mPrice law (nI m))))) 62 a.2.length (nI m)) 43 20 ((I 43 20) + 1)) X)) (fun _ => rfl) ?_
          have e : wkG as fg dr aim m m = true := by
            unfold wkG
            simp [q1, q2]
          have eR : wk as fg dr law aim (I0 52) np (n + 1) m l once a = (m, m, (a.1 + mPays as (mPrice law (nI m)), a.2 ++ [m])) := by
            rw [wk, hw]
            dsimp only [cond_true, cond_false]
            rw [e]
            rfl
          rw [eR] at kont
          rw [Int32.add_zero]
          exact kont _ _ _ (((heq.put rfl).put rfl).put rfl) (mSc_add hsc)
