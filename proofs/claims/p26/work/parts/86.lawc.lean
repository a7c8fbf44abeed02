def mL_reason_L76 (r : kG) (x2 : Int32) (x3 : Int32) (i2 : Nat) : Nat → Int32 → Nat → (Int32 × (Nat → Int32))
  | 0, _, _ => (0, (fun _ => 0))
  | n76 + 1, x76_3, i76 =>
    if 1728 ≤ (nI i76) then
      if x76_3 = 0 then
        (0, (upd (upd (r 0) ((12 + x3)).toNatClampNeg (((r 0) 48) + 1)) ((12 + x3)).toNatClampNeg 0))
      else
        (2, (upd (upd (r 0) ((12 + x3)).toNatClampNeg (((r 0) 48) + 1)) ((12 + x3)).toNatClampNeg 0))
    else
      if ((upd (r 0) ((12 + x3)).toNatClampNeg (((r 0) 48) + 1)) 49) ≤ (nI (i76 / 144)) then
        if x76_3 = 0 then
          mL_reason_L76 r x2 x3 i2 n76 0 (i76 + 1)
        else
          mL_reason_L76 r x2 x3 i2 n76 1 (i76 + 1)
      else
        if ((upd (r 0) ((12 + x3)).toNatClampNeg (((r 0) 48) + 1)) 49) ≤ (nI (i76 / 12 % 12)) then
          if x76_3 = 0 then
            mL_reason_L76 r x2 x3 i2 n76 0 (i76 + 1)
          else
            mL_reason_L76 r x2 x3 i2 n76 1 (i76 + 1)
        else
          if ((upd (r 0) ((12 + x3)).toNatClampNeg (((r 0) 48) + 1)) 49) ≤ (nI (i76 % 12)) then
            if x76_3 = 0 then
              mL_reason_L76 r x2 x3 i2 n76 0 (i76 + 1)
            else
              mL_reason_L76 r x2 x3 i2 n76 1 (i76 + 1)
          else
            if (nI (i76 / 144)) = x3 then
              if (mL_isCommitted (rset r 0 (upd (r 0) ((12 + x3)).toNatClampNeg (((r 0) 48) + 1))) (nI (i76 / 144))) = 0 then
                if x76_3 = 0 then
                  mL_reason_L76 r x2 x3 i2 n76 0 (i76 + 1)
                else
                  mL_reason_L76 r x2 x3 i2 n76 1 (i76 + 1)
              else
                if (mL_isCommitted (rset r 0 (upd (r 0) ((12 + x3)).toNatClampNeg (((r 0) 48) + 1))) (nI (i76 / 12 % 12))) = 0 then
                  if x76_3 = 0 then
                    mL_reason_L76 r x2 x3 i2 n76 0 (i76 + 1)
                  else
                    mL_reason_L76 r x2 x3 i2 n76 1 (i76 + 1)
                else
                  if (mL_isCommitted (rset r 0 (upd (r 0) ((12 + x3)).toNatClampNeg (((r 0) 48) + 1))) (nI (i76 % 12))) = 0 then
                    if x76_3 = 0 then
                      mL_reason_L76 r x2 x3 i2 n76 0 (i76 + 1)
                    else
                      mL_reason_L76 r x2 x3 i2 n76 1 (i76 + 1)
                  else
                    if x76_3 = 0 then
                      if (mL_isEdge (rset r 0 (upd (r 0) ((12 + x3)).toNatClampNeg (((r 0) 48) + 1))) (nI (i76 / 144)) (nI (i76 / 12 % 12))) = 0 then
                        mL_reason_L76 r x2 x3 i2 n76 0 (i76 + 1)
                      else
                        if (mL_isEdge (rset r 0 (upd (r 0) ((12 + x3)).toNatClampNeg (((r 0) 48) + 1))) (nI (i76 / 12 % 12)) (nI (i76 % 12))) = 0 then
                          mL_reason_L76 r x2 x3 i2 n76 0 (i76 + 1)
                        else
                          if (mL_counts (rset r 0 (upd (r 0) ((12 + x3)).toNatClampNeg (((r 0) 48) + 1))) x2 (nI (i76 / 144)) (nI (i76 / 12 % 12)) (nI (i76 % 12))) = 0 then
                            mL_reason_L76 r x2 x3 i2 n76 0 (i76 + 1)
                          else
                            mL_reason_L76 r x2 x3 i2 n76 1 (i76 + 1)
                    else
                      mL_reason_L76 r x2 x3 i2 n76 1 (i76 + 1)
            else
              if (nI (i76 / 12 % 12)) = x3 then
                if (mL_isCommitted (rset r 0 (upd (r 0) ((12 + x3)).toNatClampNeg (((r 0) 48) + 1))) (nI (i76 / 144))) = 0 then
                  if x76_3 = 0 then
                    mL_reason_L76 r x2 x3 i2 n76 0 (i76 + 1)
                  else
                    mL_reason_L76 r x2 x3 i2 n76 1 (i76 + 1)
                else
                  if (mL_isCommitted (rset r 0 (upd (r 0) ((12 + x3)).toNatClampNeg (((r 0) 48) + 1))) (nI (i76 / 12 % 12))) = 0 then
                    if x76_3 = 0 then
                      mL_reason_L76 r x2 x3 i2 n76 0 (i76 + 1)
                    else
                      mL_reason_L76 r x2 x3 i2 n76 1 (i76 + 1)
                  else
                    if (mL_isCommitted (rset r 0 (upd (r 0) ((12 + x3)).toNatClampNeg (((r 0) 48) + 1))) (nI (i76 % 12))) = 0 then
                      if x76_3 = 0 then
                        mL_reason_L76 r x2 x3 i2 n76 0 (i76 + 1)
                      else
                        mL_reason_L76 r x2 x3 i2 n76 1 (i76 + 1)
                    else
                      if x76_3 = 0 then
                        if (mL_isEdge (rset r 0 (upd (r 0) ((12 + x3)).toNatClampNeg (((r 0) 48) + 1))) (nI (i76 / 144)) (nI (i76 / 12 % 12))) = 0 then
                          mL_reason_L76 r x2 x3 i2 n76 0 (i76 + 1)
                        else
                          if (mL_isEdge (rset r 0 (upd (r 0) ((12 + x3)).toNatClampNeg (((r 0) 48) + 1))) (nI (i76 / 12 % 12)) (nI (i76 % 12))) = 0 then
                            mL_reason_L76 r x2 x3 i2 n76 0 (i76 + 1)
                          else
                            if (mL_counts (rset r 0 (upd (r 0) ((12 + x3)).toNatClampNeg (((r 0) 48) + 1))) x2 (nI (i76 / 144)) (nI (i76 / 12 % 12)) (nI (i76 % 12))) = 0 then
                              mL_reason_L76 r x2 x3 i2 n76 0 (i76 + 1)
                            else
                              mL_reason_L76 r x2 x3 i2 n76 1 (i76 + 1)
                      else
                        mL_reason_L76 r x2 x3 i2 n76 1 (i76 + 1)
              else
                if (nI (i76 % 12)) = x3 then
                  if (mL_isCommitted (rset r 0 (upd (r 0) ((12 + x3)).toNatClampNeg (((r 0) 48) + 1))) (nI (i76 / 144))) = 0 then
                    if x76_3 = 0 then
                      mL_reason_L76 r x2 x3 i2 n76 0 (i76 + 1)
                    else
                      mL_reason_L76 r x2 x3 i2 n76 1 (i76 + 1)
                  else
                    if (mL_isCommitted (rset r 0 (upd (r 0) ((12 + x3)).toNatClampNeg (((r 0) 48) + 1))) (nI (i76 / 12 % 12))) = 0 then
                      if x76_3 = 0 then
                        mL_reason_L76 r x2 x3 i2 n76 0 (i76 + 1)
                      else
                        mL_reason_L76 r x2 x3 i2 n76 1 (i76 + 1)
                    else
                      if (mL_isCommitted (rset r 0 (upd (r 0) ((12 + x3)).toNatClampNeg (((r 0) 48) + 1))) (nI (i76 % 12))) = 0 then
                        if x76_3 = 0 then
                          mL_reason_L76 r x2 x3 i2 n76 0 (i76 + 1)
                        else
                          mL_reason_L76 r x2 x3 i2 n76 1 (i76 + 1)
                      else
                        if x76_3 = 0 then
                          if (mL_isEdge (rset r 0 (upd (r 0) ((12 + x3)).toNatClampNeg (((r 0) 48) + 1))) (nI (i76 / 144)) (nI (i76 / 12 % 12))) = 0 then
                            mL_reason_L76 r x2 x3 i2 n76 0 (i76 + 1)
                          else
                            if (mL_isEdge (rset r 0 (upd (r 0) ((12 + x3)).toNatClampNeg (((r 0) 48) + 1))) (nI (i76 / 12 % 12)) (nI (i76 % 12))) = 0 then
                              mL_reason_L76 r x2 x3 i2 n76 0 (i76 + 1)
                            else
                              if (mL_counts (rset r 0 (upd (r 0) ((12 + x3)).toNatClampNeg (((r 0) 48) + 1))) x2 (nI (i76 / 144)) (nI (i76 / 12 % 12)) (nI (i76 % 12))) = 0 then
                                mL_reason_L76 r x2 x3 i2 n76 0 (i76 + 1)
                              else
                                mL_reason_L76 r x2 x3 i2 n76 1 (i76 + 1)
                        else
                          mL_reason_L76 r x2 x3 i2 n76 1 (i76 + 1)
                else
                  if x76_3 = 0 then
                    mL_reason_L76 r x2 x3 i2 n76 0 (i76 + 1)
                  else
                    mL_reason_L76 r x2 x3 i2 n76 1 (i76 + 1)
theorem mL_reason_L76_s {r : kG} {x2 : Int32} {x3 : Int32} {i2 : Nat} {n76 : Nat} {x76_3 : Int32} {i76 : Nat} : mL_reason_L76 r x2 x3 i2 (n76 + 1) x76_3 i76 = (
    if 1728 ≤ (nI i76) then
      if x76_3 = 0 then
        (0, (upd (upd (r 0) ((12 + x3)).toNatClampNeg (((r 0) 48) + 1)) ((12 + x3)).toNatClampNeg 0))
      else
        (2, (upd (upd (r 0) ((12 + x3)).toNatClampNeg (((r 0) 48) + 1)) ((12 + x3)).toNatClampNeg 0))
    else
      if ((upd (r 0) ((12 + x3)).toNatClampNeg (((r 0) 48) + 1)) 49) ≤ (nI (i76 / 144)) then
        if x76_3 = 0 then
          mL_reason_L76 r x2 x3 i2 n76 0 (i76 + 1)
        else
          mL_reason_L76 r x2 x3 i2 n76 1 (i76 + 1)
      else
        if ((upd (r 0) ((12 + x3)).toNatClampNeg (((r 0) 48) + 1)) 49) ≤ (nI (i76 / 12 % 12)) then
          if x76_3 = 0 then
            mL_reason_L76 r x2 x3 i2 n76 0 (i76 + 1)
          else
            mL_reason_L76 r x2 x3 i2 n76 1 (i76 + 1)
        else
          if ((upd (r 0) ((12 + x3)).toNatClampNeg (((r 0) 48) + 1)) 49) ≤ (nI (i76 % 12)) then
            if x76_3 = 0 then
              mL_reason_L76 r x2 x3 i2 n76 0 (i76 + 1)
            else
              mL_reason_L76 r x2 x3 i2 n76 1 (i76 + 1)
          else
            if (nI (i76 / 144)) = x3 then
              if (mL_isCommitted (rset r 0 (upd (r 0) ((12 + x3)).toNatClampNeg (((r 0) 48) + 1))) (nI (i76 / 144))) = 0 then
                if x76_3 = 0 then
                  mL_reason_L76 r x2 x3 i2 n76 0 (i76 + 1)
                else
                  mL_reason_L76 r x2 x3 i2 n76 1 (i76 + 1)
              else
                if (mL_isCommitted (rset r 0 (upd (r 0) ((12 + x3)).toNatClampNeg (((r 0) 48) + 1))) (nI (i76 / 12 % 12))) = 0 then
                  if x76_3 = 0 then
                    mL_reason_L76 r x2 x3 i2 n76 0 (i76 + 1)
                  else
                    mL_reason_L76 r x2 x3 i2 n76 1 (i76 + 1)
                else
                  if (mL_isCommitted (rset r 0 (upd (r 0) ((12 + x3)).toNatClampNeg (((r 0) 48) + 1))) (nI (i76 % 12))) = 0 then
                    if x76_3 = 0 then
                      mL_reason_L76 r x2 x3 i2 n76 0 (i76 + 1)
                    else
                      mL_reason_L76 r x2 x3 i2 n76 1 (i76 + 1)
                  else
                    if x76_3 = 0 then
                      if (mL_isEdge (rset r 0 (upd (r 0) ((12 + x3)).toNatClampNeg (((r 0) 48) + 1))) (nI (i76 / 144)) (nI (i76 / 12 % 12))) = 0 then
                        mL_reason_L76 r x2 x3 i2 n76 0 (i76 + 1)
                      else
                        if (mL_isEdge (rset r 0 (upd (r 0) ((12 + x3)).toNatClampNeg (((r 0) 48) + 1))) (nI (i76 / 12 % 12)) (nI (i76 % 12))) = 0 then
                          mL_reason_L76 r x2 x3 i2 n76 0 (i76 + 1)
                        else
                          if (mL_counts (rset r 0 (upd (r 0) ((12 + x3)).toNatClampNeg (((r 0) 48) + 1))) x2 (nI (i76 / 144)) (nI (i76 / 12 % 12)) (nI (i76 % 12))) = 0 then
                            mL_reason_L76 r x2 x3 i2 n76 0 (i76 + 1)
                          else
                            mL_reason_L76 r x2 x3 i2 n76 1 (i76 + 1)
                    else
                      mL_reason_L76 r x2 x3 i2 n76 1 (i76 + 1)
            else
              if (nI (i76 / 12 % 12)) = x3 then
                if (mL_isCommitted (rset r 0 (upd (r 0) ((12 + x3)).toNatClampNeg (((r 0) 48) + 1))) (nI (i76 / 144))) = 0 then
                  if x76_3 = 0 then
                    mL_reason_L76 r x2 x3 i2 n76 0 (i76 + 1)
                  else
                    mL_reason_L76 r x2 x3 i2 n76 1 (i76 + 1)
                else
                  if (mL_isCommitted (rset r 0 (upd (r 0) ((12 + x3)).toNatClampNeg (((r 0) 48) + 1))) (nI (i76 / 12 % 12))) = 0 then
                    if x76_3 = 0 then
                      mL_reason_L76 r x2 x3 i2 n76 0 (i76 + 1)
                    else
                      mL_reason_L76 r x2 x3 i2 n76 1 (i76 + 1)
                  else
                    if (mL_isCommitted (rset r 0 (upd (r 0) ((12 + x3)).toNatClampNeg (((r 0) 48) + 1))) (nI (i76 % 12))) = 0 then
                      if x76_3 = 0 then
                        mL_reason_L76 r x2 x3 i2 n76 0 (i76 + 1)
                      else
                        mL_reason_L76 r x2 x3 i2 n76 1 (i76 + 1)
                    else
                      if x76_3 = 0 then
                        if (mL_isEdge (rset r 0 (upd (r 0) ((12 + x3)).toNatClampNeg (((r 0) 48) + 1))) (nI (i76 / 144)) (nI (i76 / 12 % 12))) = 0 then
                          mL_reason_L76 r x2 x3 i2 n76 0 (i76 + 1)
                        else
                          if (mL_isEdge (rset r 0 (upd (r 0) ((12 + x3)).toNatClampNeg (((r 0) 48) + 1))) (nI (i76 / 12 % 12)) (nI (i76 % 12))) = 0 then
                            mL_reason_L76 r x2 x3 i2 n76 0 (i76 + 1)
                          else
                            if (mL_counts (rset r 0 (upd (r 0) ((12 + x3)).toNatClampNeg (((r 0) 48) + 1))) x2 (nI (i76 / 144)) (nI (i76 / 12 % 12)) (nI (i76 % 12))) = 0 then
                              mL_reason_L76 r x2 x3 i2 n76 0 (i76 + 1)
                            else
                              mL_reason_L76 r x2 x3 i2 n76 1 (i76 + 1)
                      else
                        mL_reason_L76 r x2 x3 i2 n76 1 (i76 + 1)
              else
                if (nI (i76 % 12)) = x3 then
                  if (mL_isCommitted (rset r 0 (upd (r 0) ((12 + x3)).toNatClampNeg (((r 0) 48) + 1))) (nI (i76 / 144))) = 0 then
                    if x76_3 = 0 then
                      mL_reason_L76 r x2 x3 i2 n76 0 (i76 + 1)
                    else
                      mL_reason_L76 r x2 x3 i2 n76 1 (i76 + 1)
                  else
                    if (mL_isCommitted (rset r 0 (upd (r 0) ((12 + x3)).toNatClampNeg (((r 0) 48) + 1))) (nI (i76 / 12 % 12))) = 0 then
                      if x76_3 = 0 then
                        mL_reason_L76 r x2 x3 i2 n76 0 (i76 + 1)
                      else
                        mL_reason_L76 r x2 x3 i2 n76 1 (i76 + 1)
                    else
                      if (mL_isCommitted (rset r 0 (upd (r 0) ((12 + x3)).toNatClampNeg (((r 0) 48) + 1))) (nI (i76 % 12))) = 0 then
                        if x76_3 = 0 then
                          mL_reason_L76 r x2 x3 i2 n76 0 (i76 + 1)
                        else
                          mL_reason_L76 r x2 x3 i2 n76 1 (i76 + 1)
                      else
                        if x76_3 = 0 then
                          if (mL_isEdge (rset r 0 (upd (r 0) ((12 + x3)).toNatClampNeg (((r 0) 48) + 1))) (nI (i76 / 144)) (nI (i76 / 12 % 12))) = 0 then
                            mL_reason_L76 r x2 x3 i2 n76 0 (i76 + 1)
                          else
                            if (mL_isEdge (rset r 0 (upd (r 0) ((12 + x3)).toNatClampNeg (((r 0) 48) + 1))) (nI (i76 / 12 % 12)) (nI (i76 % 12))) = 0 then
                              mL_reason_L76 r x2 x3 i2 n76 0 (i76 + 1)
                            else
                              if (mL_counts (rset r 0 (upd (r 0) ((12 + x3)).toNatClampNeg (((r 0) 48) + 1))) x2 (nI (i76 / 144)) (nI (i76 / 12 % 12)) (nI (i76 % 12))) = 0 then
                                mL_reason_L76 r x2 x3 i2 n76 0 (i76 + 1)
                              else
                                mL_reason_L76 r x2 x3 i2 n76 1 (i76 + 1)
                        else
                          mL_reason_L76 r x2 x3 i2 n76 1 (i76 + 1)
                else
                  if x76_3 = 0 then
                    mL_reason_L76 r x2 x3 i2 n76 0 (i76 + 1)
                  else
                    mL_reason_L76 r x2 x3 i2 n76 1 (i76 + 1) : Int32 × (Nat → Int32)) := rfl
def mL_reason_L2 (r : kG) (x2 : Int32) (x3 : Int32) : Nat → Nat → (Int32 × (Nat → Int32))
  | 0, _ => (0, (fun _ => 0))
  | n2 + 1, i2 =>
    if ((r 0) 49) ≤ (nI i2) then
      mL_reason_L76 r x2 x3 i2 1729 0 0
    else
      if (nI i2) = x3 then
        mL_reason_L2 r x2 x3 n2 (i2 + 1)
      else
        if (mL_isCommitted r (nI i2)) = 0 then
          mL_reason_L2 r x2 x3 n2 (i2 + 1)
        else
          if ((r 0) ((12 + (nI i2))).toNatClampNeg) ≤ ((r 0) (x3).toNatClampNeg) then
            mL_reason_L2 r x2 x3 n2 (i2 + 1)
          else
            if (((r 0) ((36 + (nI i2))).toNatClampNeg) &&& ((r 0) ((36 + x3)).toNatClampNeg)) = 0 then
              mL_reason_L2 r x2 x3 n2 (i2 + 1)
            else
              (1, (r 0))
theorem mL_reason_L2_s {r : kG} {x2 : Int32} {x3 : Int32} {n2 : Nat} {i2 : Nat} : mL_reason_L2 r x2 x3 (n2 + 1) i2 = (
    if ((r 0) 49) ≤ (nI i2) then
      mL_reason_L76 r x2 x3 i2 1729 0 0
    else
      if (nI i2) = x3 then
        mL_reason_L2 r x2 x3 n2 (i2 + 1)
      else
        if (mL_isCommitted r (nI i2)) = 0 then
          mL_reason_L2 r x2 x3 n2 (i2 + 1)
        else
          if ((r 0) ((12 + (nI i2))).toNatClampNeg) ≤ ((r 0) (x3).toNatClampNeg) then
            mL_reason_L2 r x2 x3 n2 (i2 + 1)
          else
            if (((r 0) ((36 + (nI i2))).toNatClampNeg) &&& ((r 0) ((36 + x3)).toNatClampNeg)) = 0 then
              mL_reason_L2 r x2 x3 n2 (i2 + 1)
            else
              (1, (r 0)) : Int32 × (Nat → Int32)) := rfl
def mL_reason (r : kG) (x2 : Int32) (x3 : Int32) : Int32 × (Nat → Int32) :=
  mL_reason_L2 r x2 x3 13 0
theorem mL_reason_s {r : kG} {x2 : Int32} {x3 : Int32} : mL_reason r x2 x3 = (
  mL_reason_L2 r x2 x3 13 0 : Int32 × (Nat → Int32)) := rfl
set_option maxHeartbeats 400000 in
set_option maxRecDepth 100000 in
theorem c_L_reason (l : Launch) (E : kE) (a : Nat → Nat) (r : kG) (hj : kInj a 1) (x2 : Int32) (x3 : Int32) (hn : nOK (r 0 49)) (ht : tOK x3) (R : Int32 × (Nat → Int32)) (hE : R = mL_reason r x2 x3) : Met l yL_reason wsL_reason ({ frames := 2, cells := 0, slots := 0, locals := 45 }) (kPre E [.ref (a 0), .int x2, .int x3] (wRx E a (r 0))) (kWi E R.1 (wRx E a R.2) (kA a 1)) 0 0 (kA a 1) := by
  refine Met.ofW (cc := cL_reason) (maxL := 9) (ret := (some .int)) (by decide) rfl ?_
  intro p e s m args below meth c s₁ B hml hv
  obtain ⟨rfl, hK, hP⟩ := hv
  have hx := B.exec
  have hb := B.bytes
  have hr := B.returns
  have hts := atoms_spec (ws := wsL_reason) B.pre
  have hown : s.vm.findClass RL = some m.cls := findClass_of_methodNamed B.named
  have hlocks := B.notSynchronized
  have hS : va_S (kA a 1) s.heap s.heap [] := va_S.rf
  have hP : va_P E.1 vwCl (wRx E a (r 0)) s.heap := hP
  have hD := dR (E := E) hj (r 0)
  have hl := lv_entry ([.ref (a 0), .int x2, .int x3]) (n := 9) (Nat.le_of_ble_eq_true rfl)
  rw [lg_entry_eq]
  generalize (lg_sl ([.ref (a 0), .int x2, .int x3]) ++ List.replicate (9 - (lg_sl ([.ref (a 0), .int x2, .int x3])).length) Slot.unset).toArray = ls at hl ⊢
  have hl : lv_has ls 9 [(0, .ref (a 0)), (1, .int x2), (2, .int x3)] := hl
  replace hE := hE.trans mL_reason_s
  refine lv_iconst (v := 0) hx hb dL_reason_0 (by decide) ?_
  refine lv_istore_n (lv' := [(3, .int 0), (0, .ref (a 0)), (1, .int x2), (2, .int x3)]) hx hb dL_reason_1 rfl hl (by decide) rfl (fun ls hl => ?_)
  have lp2 : ∀ (n2 : Nat) (i2 : Nat) (H : Heap) (locs : List Loc), (12 < i2 + n2) → (i2 ≤ 12) → va_P E.1 vwCl (wRx E a (r 0)) H → va_S (kA a 1) s.heap H locs → ∀ ls : Array Slot, lv_has ls 9 [(3, .int (nI i2)), (0, .ref (a 0)), (1, .int x2), (2, .int x3)] → R = mL_reason_L2 r x2 x3 n2 i2 → W p l e ({ frames := 2, cells := 0, slots := 0, locals := 45 }) s m ([.ref (a 0), .int x2, .int x3] : List Value).toArray below meth c H locs 0 0 (MQ below (kWi E R.1 (wRx E a R.2) (kA a 1)) ([.ref (a 0), .int x2, .int x3] : List Value).toArray s 0 0 (kA a 1)) (F0 m 2 ls []) := by
    clear hE
    intro n2
    induction n2 with
    | zero =>
      intro i2 H locs hm2 hi2 hP hS ls hl hE
      exact absurd hm2 (by omega)
    | succ n2 ih2 =>
      intro i2 H locs hm2 hi2 hP hS ls hl hE
      have hD := dR (E := E) hj (r 0)
      replace hE := hE.trans mL_reason_L2_s
      refine lv_iload_n hx hb dL_reason_2 rfl (lv_at hl 0 rfl) ?_
      refine lv_aload_n hx hb dL_reason_3 rfl (lv_at hl 1 rfl) ?_
      refine lv_bipush (v := 49) hx hb dL_reason_4 (by decide) ?_
      refine va_iald (D := E.1) hx hb hK.1 hP 0 0 rfl rfl (vp_in_nI (n := 49) (by decide) (by decide)) dL_reason_6 ?_
      refine W.eq (g2 := F0 m 7 ls [.int ((r 0) 49), .int (nI i2)]) rfl ?_
      refine lv_icmp_ge (tgt := 59) hx hb dL_reason_7 (by decide) (fun c_1 => ?_) (fun c_1 => ?_)
      · replace hE := hE.trans (if_pos c_1)
        refine lv_aload_n hx hb dL_reason_59 rfl (lv_at hl 1 rfl) ?_
        refine lv_bipush (v := 12) hx hb dL_reason_60 (by decide) ?_
        refine lv_iload_n hx hb dL_reason_62 rfl (lv_at hl 3 rfl) ?_
        refine lv_iadd hx hb dL_reason_63 ?_
        refine lv_aload_n hx hb dL_reason_64 rfl (lv_at hl 1 rfl) ?_
        refine lv_bipush (v := 48) hx hb dL_reason_65 (by decide) ?_
        refine va_iald (D := E.1) hx hb hK.1 hP 0 0 rfl rfl (vp_in_nI (n := 48) (by decide) (by decide)) dL_reason_67 ?_
        refine W.eq (g2 := F0 m 68 ls [.int ((r 0) 48), .int (12 + x3), .ref (a 0)]) rfl ?_
        refine lv_iconst (v := 1) hx hb dL_reason_68 (by decide) ?_
        refine lv_iadd hx hb dL_reason_69 ?_
        refine va_iast (D := E.1) hx hb hK.1 hP hD hS 0 0 rfl rfl (rIn 12 (by decide) (by first | assumption | exact tOK.nI (by omega))) dL_reason_70 (fun H locs hP _ hS => ?_)
        have hP : va_P E.1 vwCl (wRx E a (upd (r 0) ((12 + x3)).toNatClampNeg (((r 0) 48) + 1))) H := hP
        have hD := dR (E := E) hj (upd (r 0) ((12 + x3)).toNatClampNeg (((r 0) 48) + 1))
        refine lv_iconst (v := 0) hx hb dL_reason_71 (by decide) ?_
        refine lv_istore_n (lv' := [(3, .int 0), (0, .ref (a 0)), (1, .int x2), (2, .int x3)]) hx hb dL_reason_72 rfl hl (by decide) rfl (fun ls hl => ?_)
        refine lv_iconst (v := 0) hx hb dL_reason_73 (by decide) ?_
        refine lv_istore (lv' := [(4, .int 0), (3, .int 0), (0, .ref (a 0)), (1, .int x2), (2, .int x3)]) hx hb dL_reason_74 hl (by decide) rfl (fun ls hl => ?_)
        have lp76 : ∀ (n76 : Nat) (x76_3 : Int32) (i76 : Nat) (H : Heap) (locs : List Loc), (1728 < i76 + n76) → (i76 ≤ 1728) → va_P E.1 vwCl (wRx E a (upd (r 0) ((12 + x3)).toNatClampNeg (((r 0) 48) + 1))) H → va_S (kA a 1) s.heap H locs → ∀ ls : Array Slot, lv_has ls 9 [(4, .int (nI i76)), (3, .int x76_3), (0, .ref (a 0)), (1, .int x2), (2, .int x3)] → R = mL_reason_L76 r x2 x3 i2 n76 x76_3 i76 → W p l e ({ frames := 2, cells := 0, slots := 0, locals := 45 }) s m ([.ref (a 0), .int x2, .int x3] : List Value).toArray below meth c H locs 0 0 (MQ below (kWi E R.1 (wRx E a R.2) (kA a 1)) ([.ref (a 0), .int x2, .int x3] : List Value).toArray s 0 0 (kA a 1)) (F0 m 76 ls []) := by
          clear hE
          intro n76
          induction n76 with
          | zero =>
            intro x76_3 i76 H locs hm76 hi76 hP hS ls hl hE
            exact absurd hm76 (by omega)
          | succ n76 ih76 =>
            intro x76_3 i76 H locs hm76 hi76 hP hS ls hl hE
            have hD := dR (E := E) hj (upd (r 0) ((12 + x3)).toNatClampNeg (((r 0) 48) + 1))
            replace hE := hE.trans mL_reason_L76_s
            refine lv_iload hx hb dL_reason_76 (lv_at hl 0 rfl) ?_
            refine lv_sipush (v := 1728) hx hb dL_reason_78 (by decide) ?_
            refine lv_icmp_ge (tgt := 245) hx hb dL_reason_81 (by decide) (fun c_2 => ?_) (fun c_2 => ?_)
            · replace hE := hE.trans (if_pos c_2)
              refine lv_aload_n hx hb dL_reason_245 rfl (lv_at hl 2 rfl) ?_
              refine lv_bipush (v := 12) hx hb dL_reason_246 (by decide) ?_
              refine lv_iload_n hx hb dL_reason_248 rfl (lv_at hl 4 rfl) ?_
              refine lv_iadd hx hb dL_reason_249 ?_
              refine lv_iconst (v := 0) hx hb dL_reason_250 (by decide) ?_
              refine va_iast (D := E.1) hx hb hK.1 hP hD hS 0 0 rfl rfl (rIn 12 (by decide) (by first | assumption | exact tOK.nI (by omega))) dL_reason_251 (fun H locs hP _ hS => ?_)
              have hP : va_P E.1 vwCl (wRx E a (upd (upd (r 0) ((12 + x3)).toNatClampNeg (((r 0) 48) + 1)) ((12 + x3)).toNatClampNeg 0)) H := hP
              have hD := dR (E := E) hj (upd (upd (r 0) ((12 + x3)).toNatClampNeg (((r 0) 48) + 1)) ((12 + x3)).toNatClampNeg 0)
              refine lv_iload_n hx hb dL_reason_252 rfl (lv_at hl 1 rfl) ?_
              refine lv_if_eq (tgt := 260) hx hb dL_reason_253 (by decide) (fun c_3 => ?_) (fun c_3 => ?_)
              · replace hE := hE.trans (if_pos c_3)
                refine lv_iconst (v := 0) hx hb dL_reason_260 (by decide) ?_
                subst R
                exact W.iret (v := 0) hx hb hr (fun t ht hW => ⟨rfl, by rw [ht]; exact hP, hS.F ht⟩) hS.2.2 dL_reason_261
              · replace hE := hE.trans (if_neg c_3)
                refine lv_iconst (v := 2) hx hb dL_reason_256 (by decide) ?_
                refine lv_goto (tgt := 261) hx hb dL_reason_257 (by decide) ?_
                subst R
                exact W.iret (v := 2) hx hb hr (fun t ht hW => ⟨rfl, by rw [ht]; exact hP, hS.F ht⟩) hS.2.2 dL_reason_261
            · replace hE := hE.trans (if_neg c_2)
              have hbc_2 : i76 < 1728 := nI_nle_lt ⟨by omega, by omega⟩ c_2
              refine lv_iload hx hb dL_reason_84 (lv_at hl 0 rfl) ?_
              refine lv_sipush (v := 144) hx hb dL_reason_86 (by decide) ?_
              refine lv_idiv hx hb dL_reason_89 (by decide) ?_
              refine W.eq (g2 := F0 m 90 ls [.int (nI (i76 / 144))]) (by rw [show (144 : Int32) = nI 144 from rfl, kdivI (by omega) (by omega)]) ?_
              refine lv_istore (lv' := [(5, .int (nI (i76 / 144))), (4, .int (nI i76)), (3, .int x76_3), (0, .ref (a 0)), (1, .int x2), (2, .int x3)]) hx hb dL_reason_90 hl (by decide) rfl (fun ls hl => ?_)
              refine lv_iload hx hb dL_reason_92 (lv_at hl 1 rfl) ?_
              refine lv_bipush (v := 12) hx hb dL_reason_94 (by decide) ?_
              refine lv_idiv hx hb dL_reason_96 (by decide) ?_
              refine W.eq (g2 := F0 m 97 ls [.int (nI (i76 / 12))]) (by rw [show (12 : Int32) = nI 12 from rfl, kdivI (by omega) (by omega)]) ?_
              refine lv_bipush (v := 12) hx hb dL_reason_97 (by decide) ?_
              refine lv_irem hx hb dL_reason_99 (by decide) ?_
              refine W.eq (g2 := F0 m 100 ls [.int (nI (i76 / 12 % 12))]) (by rw [show (12 : Int32) = nI 12 from rfl, kremI (by omega) (by omega)]) ?_
              refine lv_istore (lv' := [(6, .int (nI (i76 / 12 % 12))), (5, .int (nI (i76 / 144))), (4, .int (nI i76)), (3, .int x76_3), (0, .ref (a 0)), (1, .int x2), (2, .int x3)]) hx hb dL_reason_100 hl (by decide) rfl (fun ls hl => ?_)
              refine lv_iload hx hb dL_reason_102 (lv_at hl 2 rfl) ?_
              refine lv_bipush (v := 12) hx hb dL_reason_104 (by decide) ?_
              refine lv_irem hx hb dL_reason_106 (by decide) ?_
              refine W.eq (g2 := F0 m 107 ls [.int (nI (i76 % 12))]) (by rw [show (12 : Int32) = nI 12 from rfl, kremI (by omega) (by omega)]) ?_
              refine lv_istore (lv' := [(7, .int (nI (i76 % 12))), (6, .int (nI (i76 / 12 % 12))), (5, .int (nI (i76 / 144))), (4, .int (nI i76)), (3, .int x76_3), (0, .ref (a 0)), (1, .int x2), (2, .int x3)]) hx hb dL_reason_107 hl (by decide) rfl (fun ls hl => ?_)
              refine lv_iload hx hb dL_reason_109 (lv_at hl 2 rfl) ?_
              refine lv_aload_n hx hb dL_reason_111 rfl (lv_at hl 5 rfl) ?_
              refine lv_bipush (v := 49) hx hb dL_reason_112 (by decide) ?_
              refine va_iald (D := E.1) hx hb hK.1 hP 0 0 rfl rfl (vp_in_nI (n := 49) (by decide) (by decide)) dL_reason_114 ?_
              refine W.eq (g2 := F0 m 115 ls [.int ((upd (r 0) ((12 + x3)).toNatClampNeg (((r 0) 48) + 1)) 49), .int (nI (i76 / 144))]) rfl ?_
              refine lv_icmp_ge (tgt := 185) hx hb dL_reason_115 (by decide) (fun c_4 => ?_) (fun c_4 => ?_)
              · replace hE := hE.trans (if_pos c_4)
                refine lv_iconst (v := 0) hx hb dL_reason_185 (by decide) ?_
                refine lv_istore (lv' := [(8, .int 0), (7, .int (nI (i76 % 12))), (6, .int (nI (i76 / 12 % 12))), (5, .int (nI (i76 / 144))), (4, .int (nI i76)), (3, .int x76_3), (0, .ref (a 0)), (1, .int x2), (2, .int x3)]) hx hb dL_reason_186 hl (by decide) rfl (fun ls hl => ?_)
                refine lv_iload_n hx hb dL_reason_188 rfl (lv_at hl 5 rfl) ?_
                refine lv_if_ne (tgt := 233) hx hb dL_reason_189 (by decide) (fun c_5 => ?_) (fun c_5 => ?_)
                · replace hE := hE.trans (if_neg c_5)
                  refine lv_iconst (v := 1) hx hb dL_reason_233 (by decide) ?_
                  refine lv_goto (tgt := 238) hx hb dL_reason_234 (by decide) ?_
                  refine lv_istore_n (lv' := [(3, .int 1), (8, .int 0), (7, .int (nI (i76 % 12))), (6, .int (nI (i76 / 12 % 12))), (5, .int (nI (i76 / 144))), (4, .int (nI i76)), (0, .ref (a 0)), (1, .int x2), (2, .int x3)]) hx hb dL_reason_238 rfl hl (by decide) rfl (fun ls hl => ?_)
                  refine lv_iinc (v := (nI (i76 + 1))) (lv' := [(4, .int (nI (i76 + 1))), (3, .int 1), (8, .int 0), (7, .int (nI (i76 % 12))), (6, .int (nI (i76 / 12 % 12))), (5, .int (nI (i76 / 144))), (0, .ref (a 0)), (1, .int x2), (2, .int x3)]) hx hb dL_reason_239 hl (k := 5) rfl (nI_1 i76) (by decide) rfl (fun ls hl => ?_)
                  refine lv_goto (tgt := 76) hx hb dL_reason_242 (by decide) ?_
                  exact ih76 1 (i76 + 1) _ _ (by omega) (by omega) hP hS ls (lv_sub hl [0, 1, 6, 7, 8] rfl) hE
                · replace hE := hE.trans (if_pos c_5)
                  refine lv_iload hx hb dL_reason_192 (lv_at hl 0 rfl) ?_
                  refine lv_if_eq (tgt := 237) hx hb dL_reason_194 (by decide) (fun _ => ?_) (fun c => absurd (by decide) c)
                  refine lv_iconst (v := 0) hx hb dL_reason_237 (by decide) ?_
                  refine lv_istore_n (lv' := [(3, .int 0), (8, .int 0), (7, .int (nI (i76 % 12))), (6, .int (nI (i76 / 12 % 12))), (5, .int (nI (i76 / 144))), (4, .int (nI i76)), (0, .ref (a 0)), (1, .int x2), (2, .int x3)]) hx hb dL_reason_238 rfl hl (by decide) rfl (fun ls hl => ?_)
                  refine lv_iinc (v := (nI (i76 + 1))) (lv' := [(4, .int (nI (i76 + 1))), (3, .int 0), (8, .int 0), (7, .int (nI (i76 % 12))), (6, .int (nI (i76 / 12 % 12))), (5, .int (nI (i76 / 144))), (0, .ref (a 0)), (1, .int x2), (2, .int x3)]) hx hb dL_reason_239 hl (k := 5) rfl (nI_1 i76) (by decide) rfl (fun ls hl => ?_)
                  refine lv_goto (tgt := 76) hx hb dL_reason_242 (by decide) ?_
                  exact ih76 0 (i76 + 1) _ _ (by omega) (by omega) hP hS ls (lv_sub hl [0, 1, 6, 7, 8] rfl) hE
              · replace hE := hE.trans (if_neg c_4)
                have hta : tOK (nI (i76 / 144)) := ⟨_, by omega, rfl⟩
                refine lv_iload hx hb dL_reason_118 (lv_at hl 1 rfl) ?_
                refine lv_aload_n hx hb dL_reason_120 rfl (lv_at hl 5 rfl) ?_
                refine lv_bipush (v := 49) hx hb dL_reason_121 (by decide) ?_
                refine va_iald (D := E.1) hx hb hK.1 hP 0 0 rfl rfl (vp_in_nI (n := 49) (by decide) (by decide)) dL_reason_123 ?_
                refine W.eq (g2 := F0 m 124 ls [.int ((upd (r 0) ((12 + x3)).toNatClampNeg (((r 0) 48) + 1)) 49), .int (nI (i76 / 12 % 12))]) rfl ?_
                refine lv_icmp_ge (tgt := 185) hx hb dL_reason_124 (by decide) (fun c_6 => ?_) (fun c_6 => ?_)
                · replace hE := hE.trans (if_pos c_6)
                  refine lv_iconst (v := 0) hx hb dL_reason_185 (by decide) ?_
                  refine lv_istore (lv' := [(8, .int 0), (7, .int (nI (i76 % 12))), (6, .int (nI (i76 / 12 % 12))), (5, .int (nI (i76 / 144))), (4, .int (nI i76)), (3, .int x76_3), (0, .ref (a 0)), (1, .int x2), (2, .int x3)]) hx hb dL_reason_186 hl (by decide) rfl (fun ls hl => ?_)
                  refine lv_iload_n hx hb dL_reason_188 rfl (lv_at hl 5 rfl) ?_
                  refine lv_if_ne (tgt := 233) hx hb dL_reason_189 (by decide) (fun c_7 => ?_) (fun c_7 => ?_)
                  · replace hE := hE.trans (if_neg c_7)
                    refine lv_iconst (v := 1) hx hb dL_reason_233 (by decide) ?_
                    refine lv_goto (tgt := 238) hx hb dL_reason_234 (by decide) ?_
                    refine lv_istore_n (lv' := [(3, .int 1), (8, .int 0), (7, .int (nI (i76 % 12))), (6, .int (nI (i76 / 12 % 12))), (5, .int (nI (i76 / 144))), (4, .int (nI i76)), (0, .ref (a 0)), (1, .int x2), (2, .int x3)]) hx hb dL_reason_238 rfl hl (by decide) rfl (fun ls hl => ?_)
                    refine lv_iinc (v := (nI (i76 + 1))) (lv' := [(4, .int (nI (i76 + 1))), (3, .int 1), (8, .int 0), (7, .int (nI (i76 % 12))), (6, .int (nI (i76 / 12 % 12))), (5, .int (nI (i76 / 144))), (0, .ref (a 0)), (1, .int x2), (2, .int x3)]) hx hb dL_reason_239 hl (k := 5) rfl (nI_1 i76) (by decide) rfl (fun ls hl => ?_)
                    refine lv_goto (tgt := 76) hx hb dL_reason_242 (by decide) ?_
                    exact ih76 1 (i76 + 1) _ _ (by omega) (by omega) hP hS ls (lv_sub hl [0, 1, 6, 7, 8] rfl) hE
                  · replace hE := hE.trans (if_pos c_7)
                    refine lv_iload hx hb dL_reason_192 (lv_at hl 0 rfl) ?_
                    refine lv_if_eq (tgt := 237) hx hb dL_reason_194 (by decide) (fun _ => ?_) (fun c => absurd (by decide) c)
                    refine lv_iconst (v := 0) hx hb dL_reason_237 (by decide) ?_
                    refine lv_istore_n (lv' := [(3, .int 0), (8, .int 0), (7, .int (nI (i76 % 12))), (6, .int (nI (i76 / 12 % 12))), (5, .int (nI (i76 / 144))), (4, .int (nI i76)), (0, .ref (a 0)), (1, .int x2), (2, .int x3)]) hx hb dL_reason_238 rfl hl (by decide) rfl (fun ls hl => ?_)
                    refine lv_iinc (v := (nI (i76 + 1))) (lv' := [(4, .int (nI (i76 + 1))), (3, .int 0), (8, .int 0), (7, .int (nI (i76 % 12))), (6, .int (nI (i76 / 12 % 12))), (5, .int (nI (i76 / 144))), (0, .ref (a 0)), (1, .int x2), (2, .int x3)]) hx hb dL_reason_239 hl (k := 5) rfl (nI_1 i76) (by decide) rfl (fun ls hl => ?_)
                    refine lv_goto (tgt := 76) hx hb dL_reason_242 (by decide) ?_
                    exact ih76 0 (i76 + 1) _ _ (by omega) (by omega) hP hS ls (lv_sub hl [0, 1, 6, 7, 8] rfl) hE
                · replace hE := hE.trans (if_neg c_6)
                  have htb : tOK (nI (i76 / 12 % 12)) := ⟨_, by omega, rfl⟩
                  refine lv_iload hx hb dL_reason_127 (lv_at hl 0 rfl) ?_
                  refine lv_aload_n hx hb dL_reason_129 rfl (lv_at hl 5 rfl) ?_
                  refine lv_bipush (v := 49) hx hb dL_reason_130 (by decide) ?_
                  refine va_iald (D := E.1) hx hb hK.1 hP 0 0 rfl rfl (vp_in_nI (n := 49) (by decide) (by decide)) dL_reason_132 ?_
                  refine W.eq (g2 := F0 m 133 ls [.int ((upd (r 0) ((12 + x3)).toNatClampNeg (((r 0) 48) + 1)) 49), .int (nI (i76 % 12))]) rfl ?_
                  refine lv_icmp_ge (tgt := 185) hx hb dL_reason_133 (by decide) (fun c_8 => ?_) (fun c_8 => ?_)
                  · replace hE := hE.trans (if_pos c_8)
                    refine lv_iconst (v := 0) hx hb dL_reason_185 (by decide) ?_
                    refine lv_istore (lv' := [(8, .int 0), (7, .int (nI (i76 % 12))), (6, .int (nI (i76 / 12 % 12))), (5, .int (nI (i76 / 144))), (4, .int (nI i76)), (3, .int x76_3), (0, .ref (a 0)), (1, .int x2), (2, .int x3)]) hx hb dL_reason_186 hl (by decide) rfl (fun ls hl => ?_)
                    refine lv_iload_n hx hb dL_reason_188 rfl (lv_at hl 5 rfl) ?_
                    refine lv_if_ne (tgt := 233) hx hb dL_reason_189 (by decide) (fun c_9 => ?_) (fun c_9 => ?_)
                    · replace hE := hE.trans (if_neg c_9)
                      refine lv_iconst (v := 1) hx hb dL_reason_233 (by decide) ?_
                      refine lv_goto (tgt := 238) hx hb dL_reason_234 (by decide) ?_
                      refine lv_istore_n (lv' := [(3, .int 1), (8, .int 0), (7, .int (nI (i76 % 12))), (6, .int (nI (i76 / 12 % 12))), (5, .int (nI (i76 / 144))), (4, .int (nI i76)), (0, .ref (a 0)), (1, .int x2), (2, .int x3)]) hx hb dL_reason_238 rfl hl (by decide) rfl (fun ls hl => ?_)
                      refine lv_iinc (v := (nI (i76 + 1))) (lv' := [(4, .int (nI (i76 + 1))), (3, .int 1), (8, .int 0), (7, .int (nI (i76 % 12))), (6, .int (nI (i76 / 12 % 12))), (5, .int (nI (i76 / 144))), (0, .ref (a 0)), (1, .int x2), (2, .int x3)]) hx hb dL_reason_239 hl (k := 5) rfl (nI_1 i76) (by decide) rfl (fun ls hl => ?_)
                      refine lv_goto (tgt := 76) hx hb dL_reason_242 (by decide) ?_
                      exact ih76 1 (i76 + 1) _ _ (by omega) (by omega) hP hS ls (lv_sub hl [0, 1, 6, 7, 8] rfl) hE
                    · replace hE := hE.trans (if_pos c_9)
                      refine lv_iload hx hb dL_reason_192 (lv_at hl 0 rfl) ?_
                      refine lv_if_eq (tgt := 237) hx hb dL_reason_194 (by decide) (fun _ => ?_) (fun c => absurd (by decide) c)
                      refine lv_iconst (v := 0) hx hb dL_reason_237 (by decide) ?_
                      refine lv_istore_n (lv' := [(3, .int 0), (8, .int 0), (7, .int (nI (i76 % 12))), (6, .int (nI (i76 / 12 % 12))), (5, .int (nI (i76 / 144))), (4, .int (nI i76)), (0, .ref (a 0)), (1, .int x2), (2, .int x3)]) hx hb dL_reason_238 rfl hl (by decide) rfl (fun ls hl => ?_)
                      refine lv_iinc (v := (nI (i76 + 1))) (lv' := [(4, .int (nI (i76 + 1))), (3, .int 0), (8, .int 0), (7, .int (nI (i76 % 12))), (6, .int (nI (i76 / 12 % 12))), (5, .int (nI (i76 / 144))), (0, .ref (a 0)), (1, .int x2), (2, .int x3)]) hx hb dL_reason_239 hl (k := 5) rfl (nI_1 i76) (by decide) rfl (fun ls hl => ?_)
                      refine lv_goto (tgt := 76) hx hb dL_reason_242 (by decide) ?_
                      exact ih76 0 (i76 + 1) _ _ (by omega) (by omega) hP hS ls (lv_sub hl [0, 1, 6, 7, 8] rfl) hE
                  · replace hE := hE.trans (if_neg c_8)
                    have htc : tOK (nI (i76 % 12)) := ⟨_, by omega, rfl⟩
                    refine lv_iload hx hb dL_reason_136 (lv_at hl 2 rfl) ?_
                    refine lv_iload_n hx hb dL_reason_138 rfl (lv_at hl 7 rfl) ?_
                    refine lv_icmp_eq (tgt := 154) hx hb dL_reason_139 (by decide) (fun c_10 => ?_) (fun c_10 => ?_)
                    · replace hE := hE.trans (if_pos c_10)
                      refine lv_aload_n hx hb dL_reason_154 rfl (lv_at hl 5 rfl) ?_
                      refine lv_iload hx hb dL_reason_155 (lv_at hl 2 rfl) ?_
                      refine kCallRi (va_runS (As := [.ref (a 0), .int (nI (i76 / 144))]) (rest := []) ⟨hx, hb, hml, hown, hts⟩ (c_L_isCommitted l E a (rset r 0 (upd (r 0) ((12 + x3)).toNatClampNeg (((r 0) 48) + 1))) (nI (i76 / 144)) (by first | assumption | exact tOK.nI (by omega)) _ rfl) (va_cwS 2 hts gL_reason_L_isCommitted rfl rfl rfl (by decide +kernel) ⟨Nat.le_of_ble_eq_true rfl, Nat.le_of_ble_eq_true rfl⟩) (kPreS hK hP) rfl rfl hl.1 rfl (lv_room (Nat.le_of_ble_eq_true rfl)) dL_reason_157 ⟨Nat.zero_le _, Nat.zero_le _⟩) ?_
                      refine lv_if_eq (tgt := 185) hx hb dL_reason_160 (by decide) (fun c_11 => ?_) (fun c_11 => ?_)
                      · replace hE := hE.trans (if_pos c_11)
                        refine lv_iconst (v := 0) hx hb dL_reason_185 (by decide) ?_
                        refine lv_istore (lv' := [(8, .int 0), (7, .int (nI (i76 % 12))), (6, .int (nI (i76 / 12 % 12))), (5, .int (nI (i76 / 144))), (4, .int (nI i76)), (3, .int x76_3), (0, .ref (a 0)), (1, .int x2), (2, .int x3)]) hx hb dL_reason_186 hl (by decide) rfl (fun ls hl => ?_)
                        refine lv_iload_n hx hb dL_reason_188 rfl (lv_at hl 5 rfl) ?_
                        refine lv_if_ne (tgt := 233) hx hb dL_reason_189 (by decide) (fun c_12 => ?_) (fun c_12 => ?_)
                        · replace hE := hE.trans (if_neg c_12)
                          refine lv_iconst (v := 1) hx hb dL_reason_233 (by decide) ?_
                          refine lv_goto (tgt := 238) hx hb dL_reason_234 (by decide) ?_
                          refine lv_istore_n (lv' := [(3, .int 1), (8, .int 0), (7, .int (nI (i76 % 12))), (6, .int (nI (i76 / 12 % 12))), (5, .int (nI (i76 / 144))), (4, .int (nI i76)), (0, .ref (a 0)), (1, .int x2), (2, .int x3)]) hx hb dL_reason_238 rfl hl (by decide) rfl (fun ls hl => ?_)
                          refine lv_iinc (v := (nI (i76 + 1))) (lv' := [(4, .int (nI (i76 + 1))), (3, .int 1), (8, .int 0), (7, .int (nI (i76 % 12))), (6, .int (nI (i76 / 12 % 12))), (5, .int (nI (i76 / 144))), (0, .ref (a 0)), (1, .int x2), (2, .int x3)]) hx hb dL_reason_239 hl (k := 5) rfl (nI_1 i76) (by decide) rfl (fun ls hl => ?_)
                          refine lv_goto (tgt := 76) hx hb dL_reason_242 (by decide) ?_
                          exact ih76 1 (i76 + 1) _ _ (by omega) (by omega) hP hS ls (lv_sub hl [0, 1, 6, 7, 8] rfl) hE
                        · replace hE := hE.trans (if_pos c_12)
                          refine lv_iload hx hb dL_reason_192 (lv_at hl 0 rfl) ?_
                          refine lv_if_eq (tgt := 237) hx hb dL_reason_194 (by decide) (fun _ => ?_) (fun c => absurd (by decide) c)
                          refine lv_iconst (v := 0) hx hb dL_reason_237 (by decide) ?_
                          refine lv_istore_n (lv' := [(3, .int 0), (8, .int 0), (7, .int (nI (i76 % 12))), (6, .int (nI (i76 / 12 % 12))), (5, .int (nI (i76 / 144))), (4, .int (nI i76)), (0, .ref (a 0)), (1, .int x2), (2, .int x3)]) hx hb dL_reason_238 rfl hl (by decide) rfl (fun ls hl => ?_)
                          refine lv_iinc (v := (nI (i76 + 1))) (lv' := [(4, .int (nI (i76 + 1))), (3, .int 0), (8, .int 0), (7, .int (nI (i76 % 12))), (6, .int (nI (i76 / 12 % 12))), (5, .int (nI (i76 / 144))), (0, .ref (a 0)), (1, .int x2), (2, .int x3)]) hx hb dL_reason_239 hl (k := 5) rfl (nI_1 i76) (by decide) rfl (fun ls hl => ?_)
                          refine lv_goto (tgt := 76) hx hb dL_reason_242 (by decide) ?_
                          exact ih76 0 (i76 + 1) _ _ (by omega) (by omega) hP hS ls (lv_sub hl [0, 1, 6, 7, 8] rfl) hE
                      · replace hE := hE.trans (if_neg c_11)
                        refine lv_aload_n hx hb dL_reason_163 rfl (lv_at hl 5 rfl) ?_
                        refine lv_iload hx hb dL_reason_164 (lv_at hl 1 rfl) ?_
                        refine kCallRi (va_runS (As := [.ref (a 0), .int (nI (i76 / 12 % 12))]) (rest := []) ⟨hx, hb, hml, hown, hts⟩ (c_L_isCommitted l E a (rset r 0 (upd (r 0) ((12 + x3)).toNatClampNeg (((r 0) 48) + 1))) (nI (i76 / 12 % 12)) (by first | assumption | exact tOK.nI (by omega)) _ rfl) (va_cwS 2 hts gL_reason_L_isCommitted rfl rfl rfl (by decide +kernel) ⟨Nat.le_of_ble_eq_true rfl, Nat.le_of_ble_eq_true rfl⟩) (kPreS hK hP) rfl rfl hl.1 rfl (lv_room (Nat.le_of_ble_eq_true rfl)) dL_reason_166 ⟨Nat.zero_le _, Nat.zero_le _⟩) ?_
                        refine lv_if_eq (tgt := 185) hx hb dL_reason_169 (by decide) (fun c_13 => ?_) (fun c_13 => ?_)
                        · replace hE := hE.trans (if_pos c_13)
                          refine lv_iconst (v := 0) hx hb dL_reason_185 (by decide) ?_
                          refine lv_istore (lv' := [(8, .int 0), (7, .int (nI (i76 % 12))), (6, .int (nI (i76 / 12 % 12))), (5, .int (nI (i76 / 144))), (4, .int (nI i76)), (3, .int x76_3), (0, .ref (a 0)), (1, .int x2), (2, .int x3)]) hx hb dL_reason_186 hl (by decide) rfl (fun ls hl => ?_)
                          refine lv_iload_n hx hb dL_reason_188 rfl (lv_at hl 5 rfl) ?_
                          refine lv_if_ne (tgt := 233) hx hb dL_reason_189 (by decide) (fun c_14 => ?_) (fun c_14 => ?_)
                          · replace hE := hE.trans (if_neg c_14)
                            refine lv_iconst (v := 1) hx hb dL_reason_233 (by decide) ?_
                            refine lv_goto (tgt := 238) hx hb dL_reason_234 (by decide) ?_
                            refine lv_istore_n (lv' := [(3, .int 1), (8, .int 0), (7, .int (nI (i76 % 12))), (6, .int (nI (i76 / 12 % 12))), (5, .int (nI (i76 / 144))), (4, .int (nI i76)), (0, .ref (a 0)), (1, .int x2), (2, .int x3)]) hx hb dL_reason_238 rfl hl (by decide) rfl (fun ls hl => ?_)
                            refine lv_iinc (v := (nI (i76 + 1))) (lv' := [(4, .int (nI (i76 + 1))), (3, .int 1), (8, .int 0), (7, .int (nI (i76 % 12))), (6, .int (nI (i76 / 12 % 12))), (5, .int (nI (i76 / 144))), (0, .ref (a 0)), (1, .int x2), (2, .int x3)]) hx hb dL_reason_239 hl (k := 5) rfl (nI_1 i76) (by decide) rfl (fun ls hl => ?_)
                            refine lv_goto (tgt := 76) hx hb dL_reason_242 (by decide) ?_
                            exact ih76 1 (i76 + 1) _ _ (by omega) (by omega) hP hS ls (lv_sub hl [0, 1, 6, 7, 8] rfl) hE
                          · replace hE := hE.trans (if_pos c_14)
                            refine lv_iload hx hb dL_reason_192 (lv_at hl 0 rfl) ?_
                            refine lv_if_eq (tgt := 237) hx hb dL_reason_194 (by decide) (fun _ => ?_) (fun c => absurd (by decide) c)
                            refine lv_iconst (v := 0) hx hb dL_reason_237 (by decide) ?_
                            refine lv_istore_n (lv' := [(3, .int 0), (8, .int 0), (7, .int (nI (i76 % 12))), (6, .int (nI (i76 / 12 % 12))), (5, .int (nI (i76 / 144))), (4, .int (nI i76)), (0, .ref (a 0)), (1, .int x2), (2, .int x3)]) hx hb dL_reason_238 rfl hl (by decide) rfl (fun ls hl => ?_)
                            refine lv_iinc (v := (nI (i76 + 1))) (lv' := [(4, .int (nI (i76 + 1))), (3, .int 0), (8, .int 0), (7, .int (nI (i76 % 12))), (6, .int (nI (i76 / 12 % 12))), (5, .int (nI (i76 / 144))), (0, .ref (a 0)), (1, .int x2), (2, .int x3)]) hx hb dL_reason_239 hl (k := 5) rfl (nI_1 i76) (by decide) rfl (fun ls hl => ?_)
                            refine lv_goto (tgt := 76) hx hb dL_reason_242 (by decide) ?_
                            exact ih76 0 (i76 + 1) _ _ (by omega) (by omega) hP hS ls (lv_sub hl [0, 1, 6, 7, 8] rfl) hE
                        · replace hE := hE.trans (if_neg c_13)
                          refine lv_aload_n hx hb dL_reason_172 rfl (lv_at hl 5 rfl) ?_
                          refine lv_iload hx hb dL_reason_173 (lv_at hl 0 rfl) ?_
                          refine kCallRi (va_runS (As := [.ref (a 0), .int (nI (i76 % 12))]) (rest := []) ⟨hx, hb, hml, hown, hts⟩ (c_L_isCommitted l E a (rset r 0 (upd (r 0) ((12 + x3)).toNatClampNeg (((r 0) 48) + 1))) (nI (i76 % 12)) (by first | assumption | exact tOK.nI (by omega)) _ rfl) (va_cwS 2 hts gL_reason_L_isCommitted rfl rfl rfl (by decide +kernel) ⟨Nat.le_of_ble_eq_true rfl, Nat.le_of_ble_eq_true rfl⟩) (kPreS hK hP) rfl rfl hl.1 rfl (lv_room (Nat.le_of_ble_eq_true rfl)) dL_reason_175 ⟨Nat.zero_le _, Nat.zero_le _⟩) ?_
                          refine lv_if_eq (tgt := 185) hx hb dL_reason_178 (by decide) (fun c_15 => ?_) (fun c_15 => ?_)
                          · replace hE := hE.trans (if_pos c_15)
                            refine lv_iconst (v := 0) hx hb dL_reason_185 (by decide) ?_
                            refine lv_istore (lv' := [(8, .int 0), (7, .int (nI (i76 % 12))), (6, .int (nI (i76 / 12 % 12))), (5, .int (nI (i76 / 144))), (4, .int (nI i76)), (3, .int x76_3), (0, .ref (a 0)), (1, .int x2), (2, .int x3)]) hx hb dL_reason_186 hl (by decide) rfl (fun ls hl => ?_)
                            refine lv_iload_n hx hb dL_reason_188 rfl (lv_at hl 5 rfl) ?_
                            refine lv_if_ne (tgt := 233) hx hb dL_reason_189 (by decide) (fun c_16 => ?_) (fun c_16 => ?_)
                            · replace hE := hE.trans (if_neg c_16)
                              refine lv_iconst (v := 1) hx hb dL_reason_233 (by decide) ?_
                              refine lv_goto (tgt := 238) hx hb dL_reason_234 (by decide) ?_
                              refine lv_istore_n (lv' := [(3, .int 1), (8, .int 0), (7, .int (nI (i76 % 12))), (6, .int (nI (i76 / 12 % 12))), (5, .int (nI (i76 / 144))), (4, .int (nI i76)), (0, .ref (a 0)), (1, .int x2), (2, .int x3)]) hx hb dL_reason_238 rfl hl (by decide) rfl (fun ls hl => ?_)
                              refine lv_iinc (v := (nI (i76 + 1))) (lv' := [(4, .int (nI (i76 + 1))), (3, .int 1), (8, .int 0), (7, .int (nI (i76 % 12))), (6, .int (nI (i76 / 12 % 12))), (5, .int (nI (i76 / 144))), (0, .ref (a 0)), (1, .int x2), (2, .int x3)]) hx hb dL_reason_239 hl (k := 5) rfl (nI_1 i76) (by decide) rfl (fun ls hl => ?_)
                              refine lv_goto (tgt := 76) hx hb dL_reason_242 (by decide) ?_
                              exact ih76 1 (i76 + 1) _ _ (by omega) (by omega) hP hS ls (lv_sub hl [0, 1, 6, 7, 8] rfl) hE
                            · replace hE := hE.trans (if_pos c_16)
                              refine lv_iload hx hb dL_reason_192 (lv_at hl 0 rfl) ?_
                              refine lv_if_eq (tgt := 237) hx hb dL_reason_194 (by decide) (fun _ => ?_) (fun c => absurd (by decide) c)
                              refine lv_iconst (v := 0) hx hb dL_reason_237 (by decide) ?_
                              refine lv_istore_n (lv' := [(3, .int 0), (8, .int 0), (7, .int (nI (i76 % 12))), (6, .int (nI (i76 / 12 % 12))), (5, .int (nI (i76 / 144))), (4, .int (nI i76)), (0, .ref (a 0)), (1, .int x2), (2, .int x3)]) hx hb dL_reason_238 rfl hl (by decide) rfl (fun ls hl => ?_)
                              refine lv_iinc (v := (nI (i76 + 1))) (lv' := [(4, .int (nI (i76 + 1))), (3, .int 0), (8, .int 0), (7, .int (nI (i76 % 12))), (6, .int (nI (i76 / 12 % 12))), (5, .int (nI (i76 / 144))), (0, .ref (a 0)), (1, .int x2), (2, .int x3)]) hx hb dL_reason_239 hl (k := 5) rfl (nI_1 i76) (by decide) rfl (fun ls hl => ?_)
                              refine lv_goto (tgt := 76) hx hb dL_reason_242 (by decide) ?_
                              exact ih76 0 (i76 + 1) _ _ (by omega) (by omega) hP hS ls (lv_sub hl [0, 1, 6, 7, 8] rfl) hE
                          · replace hE := hE.trans (if_neg c_15)
                            refine lv_iconst (v := 1) hx hb dL_reason_181 (by decide) ?_
                            refine lv_goto (tgt := 186) hx hb dL_reason_182 (by decide) ?_
                            refine lv_istore (lv' := [(8, .int 1), (7, .int (nI (i76 % 12))), (6, .int (nI (i76 / 12 % 12))), (5, .int (nI (i76 / 144))), (4, .int (nI i76)), (3, .int x76_3), (0, .ref (a 0)), (1, .int x2), (2, .int x3)]) hx hb dL_reason_186 hl (by decide) rfl (fun ls hl => ?_)
                            refine lv_iload_n hx hb dL_reason_188 rfl (lv_at hl 5 rfl) ?_
                            refine lv_if_ne (tgt := 233) hx hb dL_reason_189 (by decide) (fun c_17 => ?_) (fun c_17 => ?_)
                            · replace hE := hE.trans (if_neg c_17)
                              refine lv_iconst (v := 1) hx hb dL_reason_233 (by decide) ?_
                              refine lv_goto (tgt := 238) hx hb dL_reason_234 (by decide) ?_
                              refine lv_istore_n (lv' := [(3, .int 1), (8, .int 1), (7, .int (nI (i76 % 12))), (6, .int (nI (i76 / 12 % 12))), (5, .int (nI (i76 / 144))), (4, .int (nI i76)), (0, .ref (a 0)), (1, .int x2), (2, .int x3)]) hx hb dL_reason_238 rfl hl (by decide) rfl (fun ls hl => ?_)
                              refine lv_iinc (v := (nI (i76 + 1))) (lv' := [(4, .int (nI (i76 + 1))), (3, .int 1), (8, .int 1), (7, .int (nI (i76 % 12))), (6, .int (nI (i76 / 12 % 12))), (5, .int (nI (i76 / 144))), (0, .ref (a 0)), (1, .int x2), (2, .int x3)]) hx hb dL_reason_239 hl (k := 5) rfl (nI_1 i76) (by decide) rfl (fun ls hl => ?_)
                              refine lv_goto (tgt := 76) hx hb dL_reason_242 (by decide) ?_
                              exact ih76 1 (i76 + 1) _ _ (by omega) (by omega) hP hS ls (lv_sub hl [0, 1, 6, 7, 8] rfl) hE
                            · replace hE := hE.trans (if_pos c_17)
                              refine lv_iload hx hb dL_reason_192 (lv_at hl 0 rfl) ?_
                              refine lv_if_eq (tgt := 237) hx hb dL_reason_194 (by decide) (fun c => absurd c (by decide)) (fun _ => ?_)
                              refine lv_aload_n hx hb dL_reason_197 rfl (lv_at hl 6 rfl) ?_
                              refine lv_iload hx hb dL_reason_198 (lv_at hl 3 rfl) ?_
                              refine lv_iload hx hb dL_reason_200 (lv_at hl 2 rfl) ?_
                              refine kCallRi (va_runS (As := [.ref (a 0), .int (nI (i76 / 144)), .int (nI (i76 / 12 % 12))]) (rest := []) ⟨hx, hb, hml, hown, hts⟩ (c_L_isEdge l E a (rset r 0 (upd (r 0) ((12 + x3)).toNatClampNeg (((r 0) 48) + 1))) (nI (i76 / 144)) (nI (i76 / 12 % 12)) (by first | assumption | exact tOK.nI (by omega)) (by first | assumption | exact tOK.nI (by omega)) _ rfl) (va_cwS 3 hts gL_reason_L_isEdge rfl rfl rfl (by decide +kernel) ⟨Nat.le_of_ble_eq_true rfl, Nat.le_of_ble_eq_true rfl⟩) (kPreS hK hP) rfl rfl hl.1 rfl (lv_room (Nat.le_of_ble_eq_true rfl)) dL_reason_202 ⟨Nat.zero_le _, Nat.zero_le _⟩) ?_
                              refine lv_if_eq (tgt := 237) hx hb dL_reason_205 (by decide) (fun c_18 => ?_) (fun c_18 => ?_)
                              · replace hE := hE.trans (if_pos c_18)
                                refine lv_iconst (v := 0) hx hb dL_reason_237 (by decide) ?_
                                refine lv_istore_n (lv' := [(3, .int 0), (8, .int 1), (7, .int (nI (i76 % 12))), (6, .int (nI (i76 / 12 % 12))), (5, .int (nI (i76 / 144))), (4, .int (nI i76)), (0, .ref (a 0)), (1, .int x2), (2, .int x3)]) hx hb dL_reason_238 rfl hl (by decide) rfl (fun ls hl => ?_)
                                refine lv_iinc (v := (nI (i76 + 1))) (lv' := [(4, .int (nI (i76 + 1))), (3, .int 0), (8, .int 1), (7, .int (nI (i76 % 12))), (6, .int (nI (i76 / 12 % 12))), (5, .int (nI (i76 / 144))), (0, .ref (a 0)), (1, .int x2), (2, .int x3)]) hx hb dL_reason_239 hl (k := 5) rfl (nI_1 i76) (by decide) rfl (fun ls hl => ?_)
                                refine lv_goto (tgt := 76) hx hb dL_reason_242 (by decide) ?_
                                exact ih76 0 (i76 + 1) _ _ (by omega) (by omega) hP hS ls (lv_sub hl [0, 1, 6, 7, 8] rfl) hE
                              · replace hE := hE.trans (if_neg c_18)
                                refine lv_aload_n hx hb dL_reason_208 rfl (lv_at hl 6 rfl) ?_
                                refine lv_iload hx hb dL_reason_209 (lv_at hl 2 rfl) ?_
                                refine lv_iload hx hb dL_reason_211 (lv_at hl 1 rfl) ?_
                                refine kCallRi (va_runS (As := [.ref (a 0), .int (nI (i76 / 12 % 12)), .int (nI (i76 % 12))]) (rest := []) ⟨hx, hb, hml, hown, hts⟩ (c_L_isEdge l E a (rset r 0 (upd (r 0) ((12 + x3)).toNatClampNeg (((r 0) 48) + 1))) (nI (i76 / 12 % 12)) (nI (i76 % 12)) (by first | assumption | exact tOK.nI (by omega)) (by first | assumption | exact tOK.nI (by omega)) _ rfl) (va_cwS 3 hts gL_reason_L_isEdge rfl rfl rfl (by decide +kernel) ⟨Nat.le_of_ble_eq_true rfl, Nat.le_of_ble_eq_true rfl⟩) (kPreS hK hP) rfl rfl hl.1 rfl (lv_room (Nat.le_of_ble_eq_true rfl)) dL_reason_213 ⟨Nat.zero_le _, Nat.zero_le _⟩) ?_
                                refine lv_if_eq (tgt := 237) hx hb dL_reason_216 (by decide) (fun c_19 => ?_) (fun c_19 => ?_)
                                · replace hE := hE.trans (if_pos c_19)
                                  refine lv_iconst (v := 0) hx hb dL_reason_237 (by decide) ?_
                                  refine lv_istore_n (lv' := [(3, .int 0), (8, .int 1), (7, .int (nI (i76 % 12))), (6, .int (nI (i76 / 12 % 12))), (5, .int (nI (i76 / 144))), (4, .int (nI i76)), (0, .ref (a 0)), (1, .int x2), (2, .int x3)]) hx hb dL_reason_238 rfl hl (by decide) rfl (fun ls hl => ?_)
                                  refine lv_iinc (v := (nI (i76 + 1))) (lv' := [(4, .int (nI (i76 + 1))), (3, .int 0), (8, .int 1), (7, .int (nI (i76 % 12))), (6, .int (nI (i76 / 12 % 12))), (5, .int (nI (i76 / 144))), (0, .ref (a 0)), (1, .int x2), (2, .int x3)]) hx hb dL_reason_239 hl (k := 5) rfl (nI_1 i76) (by decide) rfl (fun ls hl => ?_)
                                  refine lv_goto (tgt := 76) hx hb dL_reason_242 (by decide) ?_
                                  exact ih76 0 (i76 + 1) _ _ (by omega) (by omega) hP hS ls (lv_sub hl [0, 1, 6, 7, 8] rfl) hE
                                · replace hE := hE.trans (if_neg c_19)
                                  refine lv_aload_n hx hb dL_reason_219 rfl (lv_at hl 6 rfl) ?_
                                  refine lv_iload_n hx hb dL_reason_220 rfl (lv_at hl 7 rfl) ?_
                                  refine lv_iload hx hb dL_reason_221 (lv_at hl 3 rfl) ?_
                                  refine lv_iload hx hb dL_reason_223 (lv_at hl 2 rfl) ?_
                                  refine lv_iload hx hb dL_reason_225 (lv_at hl 1 rfl) ?_
                                  refine kCallRi (va_runS (As := [.ref (a 0), .int x2, .int (nI (i76 / 144)), .int (nI (i76 / 12 % 12)), .int (nI (i76 % 12))]) (rest := []) ⟨hx, hb, hml, hown, hts⟩ (c_L_counts l E a (rset r 0 (upd (r 0) ((12 + x3)).toNatClampNeg (((r 0) 48) + 1))) x2 (nI (i76 / 144)) (nI (i76 / 12 % 12)) (nI (i76 % 12)) (by first | assumption | exact tOK.nI (by omega)) (by first | assumption | exact tOK.nI (by omega)) (by first | assumption | exact tOK.nI (by omega)) _ rfl) (va_cwS 5 hts gL_reason_L_counts rfl rfl rfl (by decide +kernel) ⟨Nat.le_of_ble_eq_true rfl, Nat.le_of_ble_eq_true rfl⟩) (kPreS hK hP) rfl rfl hl.1 rfl (lv_room (Nat.le_of_ble_eq_true rfl)) dL_reason_227 ⟨Nat.zero_le _, Nat.zero_le _⟩) ?_
                                  refine lv_if_eq (tgt := 237) hx hb dL_reason_230 (by decide) (fun c_20 => ?_) (fun c_20 => ?_)
                                  · replace hE := hE.trans (if_pos c_20)
                                    refine lv_iconst (v := 0) hx hb dL_reason_237 (by decide) ?_
                                    refine lv_istore_n (lv' := [(3, .int 0), (8, .int 1), (7, .int (nI (i76 % 12))), (6, .int (nI (i76 / 12 % 12))), (5, .int (nI (i76 / 144))), (4, .int (nI i76)), (0, .ref (a 0)), (1, .int x2), (2, .int x3)]) hx hb dL_reason_238 rfl hl (by decide) rfl (fun ls hl => ?_)
                                    refine lv_iinc (v := (nI (i76 + 1))) (lv' := [(4, .int (nI (i76 + 1))), (3, .int 0), (8, .int 1), (7, .int (nI (i76 % 12))), (6, .int (nI (i76 / 12 % 12))), (5, .int (nI (i76 / 144))), (0, .ref (a 0)), (1, .int x2), (2, .int x3)]) hx hb dL_reason_239 hl (k := 5) rfl (nI_1 i76) (by decide) rfl (fun ls hl => ?_)
                                    refine lv_goto (tgt := 76) hx hb dL_reason_242 (by decide) ?_
                                    exact ih76 0 (i76 + 1) _ _ (by omega) (by omega) hP hS ls (lv_sub hl [0, 1, 6, 7, 8] rfl) hE
                                  · replace hE := hE.trans (if_neg c_20)
                                    refine lv_iconst (v := 1) hx hb dL_reason_233 (by decide) ?_
                                    refine lv_goto (tgt := 238) hx hb dL_reason_234 (by decide) ?_
                                    refine lv_istore_n (lv' := [(3, .int 1), (8, .int 1), (7, .int (nI (i76 % 12))), (6, .int (nI (i76 / 12 % 12))), (5, .int (nI (i76 / 144))), (4, .int (nI i76)), (0, .ref (a 0)), (1, .int x2), (2, .int x3)]) hx hb dL_reason_238 rfl hl (by decide) rfl (fun ls hl => ?_)
                                    refine lv_iinc (v := (nI (i76 + 1))) (lv' := [(4, .int (nI (i76 + 1))), (3, .int 1), (8, .int 1), (7, .int (nI (i76 % 12))), (6, .int (nI (i76 / 12 % 12))), (5, .int (nI (i76 / 144))), (0, .ref (a 0)), (1, .int x2), (2, .int x3)]) hx hb dL_reason_239 hl (k := 5) rfl (nI_1 i76) (by decide) rfl (fun ls hl => ?_)
                                    refine lv_goto (tgt := 76) hx hb dL_reason_242 (by decide) ?_
                                    exact ih76 1 (i76 + 1) _ _ (by omega) (by omega) hP hS ls (lv_sub hl [0, 1, 6, 7, 8] rfl) hE
                    · replace hE := hE.trans (if_neg c_10)
                      refine lv_iload hx hb dL_reason_142 (lv_at hl 1 rfl) ?_
                      refine lv_iload_n hx hb dL_reason_144 rfl (lv_at hl 7 rfl) ?_
                      refine lv_icmp_eq (tgt := 154) hx hb dL_reason_145 (by decide) (fun c_21 => ?_) (fun c_21 => ?_)
                      · replace hE := hE.trans (if_pos c_21)
                        refine lv_aload_n hx hb dL_reason_154 rfl (lv_at hl 5 rfl) ?_
                        refine lv_iload hx hb dL_reason_155 (lv_at hl 2 rfl) ?_
                        refine kCallRi (va_runS (As := [.ref (a 0), .int (nI (i76 / 144))]) (rest := []) ⟨hx, hb, hml, hown, hts⟩ (c_L_isCommitted l E a (rset r 0 (upd (r 0) ((12 + x3)).toNatClampNeg (((r 0) 48) + 1))) (nI (i76 / 144)) (by first | assumption | exact tOK.nI (by omega)) _ rfl) (va_cwS 2 hts gL_reason_L_isCommitted rfl rfl rfl (by decide +kernel) ⟨Nat.le_of_ble_eq_true rfl, Nat.le_of_ble_eq_true rfl⟩) (kPreS hK hP) rfl rfl hl.1 rfl (lv_room (Nat.le_of_ble_eq_true rfl)) dL_reason_157 ⟨Nat.zero_le _, Nat.zero_le _⟩) ?_
                        refine lv_if_eq (tgt := 185) hx hb dL_reason_160 (by decide) (fun c_22 => ?_) (fun c_22 => ?_)
                        · replace hE := hE.trans (if_pos c_22)
                          refine lv_iconst (v := 0) hx hb dL_reason_185 (by decide) ?_
                          refine lv_istore (lv' := [(8, .int 0), (7, .int (nI (i76 % 12))), (6, .int (nI (i76 / 12 % 12))), (5, .int (nI (i76 / 144))), (4, .int (nI i76)), (3, .int x76_3), (0, .ref (a 0)), (1, .int x2), (2, .int x3)]) hx hb dL_reason_186 hl (by decide) rfl (fun ls hl => ?_)
                          refine lv_iload_n hx hb dL_reason_188 rfl (lv_at hl 5 rfl) ?_
                          refine lv_if_ne (tgt := 233) hx hb dL_reason_189 (by decide) (fun c_23 => ?_) (fun c_23 => ?_)
                          · replace hE := hE.trans (if_neg c_23)
                            refine lv_iconst (v := 1) hx hb dL_reason_233 (by decide) ?_
                            refine lv_goto (tgt := 238) hx hb dL_reason_234 (by decide) ?_
                            refine lv_istore_n (lv' := [(3, .int 1), (8, .int 0), (7, .int (nI (i76 % 12))), (6, .int (nI (i76 / 12 % 12))), (5, .int (nI (i76 / 144))), (4, .int (nI i76)), (0, .ref (a 0)), (1, .int x2), (2, .int x3)]) hx hb dL_reason_238 rfl hl (by decide) rfl (fun ls hl => ?_)
                            refine lv_iinc (v := (nI (i76 + 1))) (lv' := [(4, .int (nI (i76 + 1))), (3, .int 1), (8, .int 0), (7, .int (nI (i76 % 12))), (6, .int (nI (i76 / 12 % 12))), (5, .int (nI (i76 / 144))), (0, .ref (a 0)), (1, .int x2), (2, .int x3)]) hx hb dL_reason_239 hl (k := 5) rfl (nI_1 i76) (by decide) rfl (fun ls hl => ?_)
                            refine lv_goto (tgt := 76) hx hb dL_reason_242 (by decide) ?_
                            exact ih76 1 (i76 + 1) _ _ (by omega) (by omega) hP hS ls (lv_sub hl [0, 1, 6, 7, 8] rfl) hE
                          · replace hE := hE.trans (if_pos c_23)
                            refine lv_iload hx hb dL_reason_192 (lv_at hl 0 rfl) ?_
                            refine lv_if_eq (tgt := 237) hx hb dL_reason_194 (by decide) (fun _ => ?_) (fun c => absurd (by decide) c)
                            refine lv_iconst (v := 0) hx hb dL_reason_237 (by decide) ?_
                            refine lv_istore_n (lv' := [(3, .int 0), (8, .int 0), (7, .int (nI (i76 % 12))), (6, .int (nI (i76 / 12 % 12))), (5, .int (nI (i76 / 144))), (4, .int (nI i76)), (0, .ref (a 0)), (1, .int x2), (2, .int x3)]) hx hb dL_reason_238 rfl hl (by decide) rfl (fun ls hl => ?_)
                            refine lv_iinc (v := (nI (i76 + 1))) (lv' := [(4, .int (nI (i76 + 1))), (3, .int 0), (8, .int 0), (7, .int (nI (i76 % 12))), (6, .int (nI (i76 / 12 % 12))), (5, .int (nI (i76 / 144))), (0, .ref (a 0)), (1, .int x2), (2, .int x3)]) hx hb dL_reason_239 hl (k := 5) rfl (nI_1 i76) (by decide) rfl (fun ls hl => ?_)
                            refine lv_goto (tgt := 76) hx hb dL_reason_242 (by decide) ?_
                            exact ih76 0 (i76 + 1) _ _ (by omega) (by omega) hP hS ls (lv_sub hl [0, 1, 6, 7, 8] rfl) hE
                        · replace hE := hE.trans (if_neg c_22)
                          refine lv_aload_n hx hb dL_reason_163 rfl (lv_at hl 5 rfl) ?_
                          refine lv_iload hx hb dL_reason_164 (lv_at hl 1 rfl) ?_
                          refine kCallRi (va_runS (As := [.ref (a 0), .int (nI (i76 / 12 % 12))]) (rest := []) ⟨hx, hb, hml, hown, hts⟩ (c_L_isCommitted l E a (rset r 0 (upd (r 0) ((12 + x3)).toNatClampNeg (((r 0) 48) + 1))) (nI (i76 / 12 % 12)) (by first | assumption | exact tOK.nI (by omega)) _ rfl) (va_cwS 2 hts gL_reason_L_isCommitted rfl rfl rfl (by decide +kernel) ⟨Nat.le_of_ble_eq_true rfl, Nat.le_of_ble_eq_true rfl⟩) (kPreS hK hP) rfl rfl hl.1 rfl (lv_room (Nat.le_of_ble_eq_true rfl)) dL_reason_166 ⟨Nat.zero_le _, Nat.zero_le _⟩) ?_
                          refine lv_if_eq (tgt := 185) hx hb dL_reason_169 (by decide) (fun c_24 => ?_) (fun c_24 => ?_)
                          · replace hE := hE.trans (if_pos c_24)
                            refine lv_iconst (v := 0) hx hb dL_reason_185 (by decide) ?_
                            refine lv_istore (lv' := [(8, .int 0), (7, .int (nI (i76 % 12))), (6, .int (nI (i76 / 12 % 12))), (5, .int (nI (i76 / 144))), (4, .int (nI i76)), (3, .int x76_3), (0, .ref (a 0)), (1, .int x2), (2, .int x3)]) hx hb dL_reason_186 hl (by decide) rfl (fun ls hl => ?_)
                            refine lv_iload_n hx hb dL_reason_188 rfl (lv_at hl 5 rfl) ?_
                            refine lv_if_ne (tgt := 233) hx hb dL_reason_189 (by decide) (fun c_25 => ?_) (fun c_25 => ?_)
                            · replace hE := hE.trans (if_neg c_25)
                              refine lv_iconst (v := 1) hx hb dL_reason_233 (by decide) ?_
                              refine lv_goto (tgt := 238) hx hb dL_reason_234 (by decide) ?_
                              refine lv_istore_n (lv' := [(3, .int 1), (8, .int 0), (7, .int (nI (i76 % 12))), (6, .int (nI (i76 / 12 % 12))), (5, .int (nI (i76 / 144))), (4, .int (nI i76)), (0, .ref (a 0)), (1, .int x2), (2, .int x3)]) hx hb dL_reason_238 rfl hl (by decide) rfl (fun ls hl => ?_)
                              refine lv_iinc (v := (nI (i76 + 1))) (lv' := [(4, .int (nI (i76 + 1))), (3, .int 1), (8, .int 0), (7, .int (nI (i76 % 12))), (6, .int (nI (i76 / 12 % 12))), (5, .int (nI (i76 / 144))), (0, .ref (a 0)), (1, .int x2), (2, .int x3)]) hx hb dL_reason_239 hl (k := 5) rfl (nI_1 i76) (by decide) rfl (fun ls hl => ?_)
                              refine lv_goto (tgt := 76) hx hb dL_reason_242 (by decide) ?_
                              exact ih76 1 (i76 + 1) _ _ (by omega) (by omega) hP hS ls (lv_sub hl [0, 1, 6, 7, 8] rfl) hE
                            · replace hE := hE.trans (if_pos c_25)
                              refine lv_iload hx hb dL_reason_192 (lv_at hl 0 rfl) ?_
                              refine lv_if_eq (tgt := 237) hx hb dL_reason_194 (by decide) (fun _ => ?_) (fun c => absurd (by decide) c)
                              refine lv_iconst (v := 0) hx hb dL_reason_237 (by decide) ?_
                              refine lv_istore_n (lv' := [(3, .int 0), (8, .int 0), (7, .int (nI (i76 % 12))), (6, .int (nI (i76 / 12 % 12))), (5, .int (nI (i76 / 144))), (4, .int (nI i76)), (0, .ref (a 0)), (1, .int x2), (2, .int x3)]) hx hb dL_reason_238 rfl hl (by decide) rfl (fun ls hl => ?_)
                              refine lv_iinc (v := (nI (i76 + 1))) (lv' := [(4, .int (nI (i76 + 1))), (3, .int 0), (8, .int 0), (7, .int (nI (i76 % 12))), (6, .int (nI (i76 / 12 % 12))), (5, .int (nI (i76 / 144))), (0, .ref (a 0)), (1, .int x2), (2, .int x3)]) hx hb dL_reason_239 hl (k := 5) rfl (nI_1 i76) (by decide) rfl (fun ls hl => ?_)
                              refine lv_goto (tgt := 76) hx hb dL_reason_242 (by decide) ?_
                              exact ih76 0 (i76 + 1) _ _ (by omega) (by omega) hP hS ls (lv_sub hl [0, 1, 6, 7, 8] rfl) hE
                          · replace hE := hE.trans (if_neg c_24)
                            refine lv_aload_n hx hb dL_reason_172 rfl (lv_at hl 5 rfl) ?_
                            refine lv_iload hx hb dL_reason_173 (lv_at hl 0 rfl) ?_
                            refine kCallRi (va_runS (As := [.ref (a 0), .int (nI (i76 % 12))]) (rest := []) ⟨hx, hb, hml, hown, hts⟩ (c_L_isCommitted l E a (rset r 0 (upd (r 0) ((12 + x3)).toNatClampNeg (((r 0) 48) + 1))) (nI (i76 % 12)) (by first | assumption | exact tOK.nI (by omega)) _ rfl) (va_cwS 2 hts gL_reason_L_isCommitted rfl rfl rfl (by decide +kernel) ⟨Nat.le_of_ble_eq_true rfl, Nat.le_of_ble_eq_true rfl⟩) (kPreS hK hP) rfl rfl hl.1 rfl (lv_room (Nat.le_of_ble_eq_true rfl)) dL_reason_175 ⟨Nat.zero_le _, Nat.zero_le _⟩) ?_
                            refine lv_if_eq (tgt := 185) hx hb dL_reason_178 (by decide) (fun c_26 => ?_) (fun c_26 => ?_)
                            · replace hE := hE.trans (if_pos c_26)
                              refine lv_iconst (v := 0) hx hb dL_reason_185 (by decide) ?_
                              refine lv_istore (lv' := [(8, .int 0), (7, .int (nI (i76 % 12))), (6, .int (nI (i76 / 12 % 12))), (5, .int (nI (i76 / 144))), (4, .int (nI i76)), (3, .int x76_3), (0, .ref (a 0)), (1, .int x2), (2, .int x3)]) hx hb dL_reason_186 hl (by decide) rfl (fun ls hl => ?_)
                              refine lv_iload_n hx hb dL_reason_188 rfl (lv_at hl 5 rfl) ?_
                              refine lv_if_ne (tgt := 233) hx hb dL_reason_189 (by decide) (fun c_27 => ?_) (fun c_27 => ?_)
                              · replace hE := hE.trans (if_neg c_27)
                                refine lv_iconst (v := 1) hx hb dL_reason_233 (by decide) ?_
                                refine lv_goto (tgt := 238) hx hb dL_reason_234 (by decide) ?_
                                refine lv_istore_n (lv' := [(3, .int 1), (8, .int 0), (7, .int (nI (i76 % 12))), (6, .int (nI (i76 / 12 % 12))), (5, .int (nI (i76 / 144))), (4, .int (nI i76)), (0, .ref (a 0)), (1, .int x2), (2, .int x3)]) hx hb dL_reason_238 rfl hl (by decide) rfl (fun ls hl => ?_)
                                refine lv_iinc (v := (nI (i76 + 1))) (lv' := [(4, .int (nI (i76 + 1))), (3, .int 1), (8, .int 0), (7, .int (nI (i76 % 12))), (6, .int (nI (i76 / 12 % 12))), (5, .int (nI (i76 / 144))), (0, .ref (a 0)), (1, .int x2), (2, .int x3)]) hx hb dL_reason_239 hl (k := 5) rfl (nI_1 i76) (by decide) rfl (fun ls hl => ?_)
                                refine lv_goto (tgt := 76) hx hb dL_reason_242 (by decide) ?_
                                exact ih76 1 (i76 + 1) _ _ (by omega) (by omega) hP hS ls (lv_sub hl [0, 1, 6, 7, 8] rfl) hE
                              · replace hE := hE.trans (if_pos c_27)
                                refine lv_iload hx hb dL_reason_192 (lv_at hl 0 rfl) ?_
                                refine lv_if_eq (tgt := 237) hx hb dL_reason_194 (by decide) (fun _ => ?_) (fun c => absurd (by decide) c)
                                refine lv_iconst (v := 0) hx hb dL_reason_237 (by decide) ?_
                                refine lv_istore_n (lv' := [(3, .int 0), (8, .int 0), (7, .int (nI (i76 % 12))), (6, .int (nI (i76 / 12 % 12))), (5, .int (nI (i76 / 144))), (4, .int (nI i76)), (0, .ref (a 0)), (1, .int x2), (2, .int x3)]) hx hb dL_reason_238 rfl hl (by decide) rfl (fun ls hl => ?_)
                                refine lv_iinc (v := (nI (i76 + 1))) (lv' := [(4, .int (nI (i76 + 1))), (3, .int 0), (8, .int 0), (7, .int (nI (i76 % 12))), (6, .int (nI (i76 / 12 % 12))), (5, .int (nI (i76 / 144))), (0, .ref (a 0)), (1, .int x2), (2, .int x3)]) hx hb dL_reason_239 hl (k := 5) rfl (nI_1 i76) (by decide) rfl (fun ls hl => ?_)
                                refine lv_goto (tgt := 76) hx hb dL_reason_242 (by decide) ?_
                                exact ih76 0 (i76 + 1) _ _ (by omega) (by omega) hP hS ls (lv_sub hl [0, 1, 6, 7, 8] rfl) hE
                            · replace hE := hE.trans (if_neg c_26)
                              refine lv_iconst (v := 1) hx hb dL_reason_181 (by decide) ?_
                              refine lv_goto (tgt := 186) hx hb dL_reason_182 (by decide) ?_
                              refine lv_istore (lv' := [(8, .int 1), (7, .int (nI (i76 % 12))), (6, .int (nI (i76 / 12 % 12))), (5, .int (nI (i76 / 144))), (4, .int (nI i76)), (3, .int x76_3), (0, .ref (a 0)), (1, .int x2), (2, .int x3)]) hx hb dL_reason_186 hl (by decide) rfl (fun ls hl => ?_)
                              refine lv_iload_n hx hb dL_reason_188 rfl (lv_at hl 5 rfl) ?_
                              refine lv_if_ne (tgt := 233) hx hb dL_reason_189 (by decide) (fun c_28 => ?_) (fun c_28 => ?_)
                              · replace hE := hE.trans (if_neg c_28)
                                refine lv_iconst (v := 1) hx hb dL_reason_233 (by decide) ?_
                                refine lv_goto (tgt := 238) hx hb dL_reason_234 (by decide) ?_
                                refine lv_istore_n (lv' := [(3, .int 1), (8, .int 1), (7, .int (nI (i76 % 12))), (6, .int (nI (i76 / 12 % 12))), (5, .int (nI (i76 / 144))), (4, .int (nI i76)), (0, .ref (a 0)), (1, .int x2), (2, .int x3)]) hx hb dL_reason_238 rfl hl (by decide) rfl (fun ls hl => ?_)
                                refine lv_iinc (v := (nI (i76 + 1))) (lv' := [(4, .int (nI (i76 + 1))), (3, .int 1), (8, .int 1), (7, .int (nI (i76 % 12))), (6, .int (nI (i76 / 12 % 12))), (5, .int (nI (i76 / 144))), (0, .ref (a 0)), (1, .int x2), (2, .int x3)]) hx hb dL_reason_239 hl (k := 5) rfl (nI_1 i76) (by decide) rfl (fun ls hl => ?_)
                                refine lv_goto (tgt := 76) hx hb dL_reason_242 (by decide) ?_
                                exact ih76 1 (i76 + 1) _ _ (by omega) (by omega) hP hS ls (lv_sub hl [0, 1, 6, 7, 8] rfl) hE
                              · replace hE := hE.trans (if_pos c_28)
                                refine lv_iload hx hb dL_reason_192 (lv_at hl 0 rfl) ?_
                                refine lv_if_eq (tgt := 237) hx hb dL_reason_194 (by decide) (fun c => absurd c (by decide)) (fun _ => ?_)
                                refine lv_aload_n hx hb dL_reason_197 rfl (lv_at hl 6 rfl) ?_
                                refine lv_iload hx hb dL_reason_198 (lv_at hl 3 rfl) ?_
                                refine lv_iload hx hb dL_reason_200 (lv_at hl 2 rfl) ?_
                                refine kCallRi (va_runS (As := [.ref (a 0), .int (nI (i76 / 144)), .int (nI (i76 / 12 % 12))]) (rest := []) ⟨hx, hb, hml, hown, hts⟩ (c_L_isEdge l E a (rset r 0 (upd (r 0) ((12 + x3)).toNatClampNeg (((r 0) 48) + 1))) (nI (i76 / 144)) (nI (i76 / 12 % 12)) (by first | assumption | exact tOK.nI (by omega)) (by first | assumption | exact tOK.nI (by omega)) _ rfl) (va_cwS 3 hts gL_reason_L_isEdge rfl rfl rfl (by decide +kernel) ⟨Nat.le_of_ble_eq_true rfl, Nat.le_of_ble_eq_true rfl⟩) (kPreS hK hP) rfl rfl hl.1 rfl (lv_room (Nat.le_of_ble_eq_true rfl)) dL_reason_202 ⟨Nat.zero_le _, Nat.zero_le _⟩) ?_
                                refine lv_if_eq (tgt := 237) hx hb dL_reason_205 (by decide) (fun c_29 => ?_) (fun c_29 => ?_)
                                · replace hE := hE.trans (if_pos c_29)
                                  refine lv_iconst (v := 0) hx hb dL_reason_237 (by decide) ?_
                                  refine lv_istore_n (lv' := [(3, .int 0), (8, .int 1), (7, .int (nI (i76 % 12))), (6, .int (nI (i76 / 12 % 12))), (5, .int (nI (i76 / 144))), (4, .int (nI i76)), (0, .ref (a 0)), (1, .int x2), (2, .int x3)]) hx hb dL_reason_238 rfl hl (by decide) rfl (fun ls hl => ?_)
                                  refine lv_iinc (v := (nI (i76 + 1))) (lv' := [(4, .int (nI (i76 + 1))), (3, .int 0), (8, .int 1), (7, .int (nI (i76 % 12))), (6, .int (nI (i76 / 12 % 12))), (5, .int (nI (i76 / 144))), (0, .ref (a 0)), (1, .int x2), (2, .int x3)]) hx hb dL_reason_239 hl (k := 5) rfl (nI_1 i76) (by decide) rfl (fun ls hl => ?_)
                                  refine lv_goto (tgt := 76) hx hb dL_reason_242 (by decide) ?_
                                  exact ih76 0 (i76 + 1) _ _ (by omega) (by omega) hP hS ls (lv_sub hl [0, 1, 6, 7, 8] rfl) hE
                                · replace hE := hE.trans (if_neg c_29)
                                  refine lv_aload_n hx hb dL_reason_208 rfl (lv_at hl 6 rfl) ?_
                                  refine lv_iload hx hb dL_reason_209 (lv_at hl 2 rfl) ?_
                                  refine lv_iload hx hb dL_reason_211 (lv_at hl 1 rfl) ?_
                                  refine kCallRi (va_runS (As := [.ref (a 0), .int (nI (i76 / 12 % 12)), .int (nI (i76 % 12))]) (rest := []) ⟨hx, hb, hml, hown, hts⟩ (c_L_isEdge l E a (rset r 0 (upd (r 0) ((12 + x3)).toNatClampNeg (((r 0) 48) + 1))) (nI (i76 / 12 % 12)) (nI (i76 % 12)) (by first | assumption | exact tOK.nI (by omega)) (by first | assumption | exact tOK.nI (by omega)) _ rfl) (va_cwS 3 hts gL_reason_L_isEdge rfl rfl rfl (by decide +kernel) ⟨Nat.le_of_ble_eq_true rfl, Nat.le_of_ble_eq_true rfl⟩) (kPreS hK hP) rfl rfl hl.1 rfl (lv_room (Nat.le_of_ble_eq_true rfl)) dL_reason_213 ⟨Nat.zero_le _, Nat.zero_le _⟩) ?_
                                  refine lv_if_eq (tgt := 237) hx hb dL_reason_216 (by decide) (fun c_30 => ?_) (fun c_30 => ?_)
                                  · replace hE := hE.trans (if_pos c_30)
                                    refine lv_iconst (v := 0) hx hb dL_reason_237 (by decide) ?_
                                    refine lv_istore_n (lv' := [(3, .int 0), (8, .int 1), (7, .int (nI (i76 % 12))), (6, .int (nI (i76 / 12 % 12))), (5, .int (nI (i76 / 144))), (4, .int (nI i76)), (0, .ref (a 0)), (1, .int x2), (2, .int x3)]) hx hb dL_reason_238 rfl hl (by decide) rfl (fun ls hl => ?_)
                                    refine lv_iinc (v := (nI (i76 + 1))) (lv' := [(4, .int (nI (i76 + 1))), (3, .int 0), (8, .int 1), (7, .int (nI (i76 % 12))), (6, .int (nI (i76 / 12 % 12))), (5, .int (nI (i76 / 144))), (0, .ref (a 0)), (1, .int x2), (2, .int x3)]) hx hb dL_reason_239 hl (k := 5) rfl (nI_1 i76) (by decide) rfl (fun ls hl => ?_)
                                    refine lv_goto (tgt := 76) hx hb dL_reason_242 (by decide) ?_
                                    exact ih76 0 (i76 + 1) _ _ (by omega) (by omega) hP hS ls (lv_sub hl [0, 1, 6, 7, 8] rfl) hE
                                  · replace hE := hE.trans (if_neg c_30)
                                    refine lv_aload_n hx hb dL_reason_219 rfl (lv_at hl 6 rfl) ?_
                                    refine lv_iload_n hx hb dL_reason_220 rfl (lv_at hl 7 rfl) ?_
                                    refine lv_iload hx hb dL_reason_221 (lv_at hl 3 rfl) ?_
                                    refine lv_iload hx hb dL_reason_223 (lv_at hl 2 rfl) ?_
                                    refine lv_iload hx hb dL_reason_225 (lv_at hl 1 rfl) ?_
                                    refine kCallRi (va_runS (As := [.ref (a 0), .int x2, .int (nI (i76 / 144)), .int (nI (i76 / 12 % 12)), .int (nI (i76 % 12))]) (rest := []) ⟨hx, hb, hml, hown, hts⟩ (c_L_counts l E a (rset r 0 (upd (r 0) ((12 + x3)).toNatClampNeg (((r 0) 48) + 1))) x2 (nI (i76 / 144)) (nI (i76 / 12 % 12)) (nI (i76 % 12)) (by first | assumption | exact tOK.nI (by omega)) (by first | assumption | exact tOK.nI (by omega)) (by first | assumption | exact tOK.nI (by omega)) _ rfl) (va_cwS 5 hts gL_reason_L_counts rfl rfl rfl (by decide +kernel) ⟨Nat.le_of_ble_eq_true rfl, Nat.le_of_ble_eq_true rfl⟩) (kPreS hK hP) rfl rfl hl.1 rfl (lv_room (Nat.le_of_ble_eq_true rfl)) dL_reason_227 ⟨Nat.zero_le _, Nat.zero_le _⟩) ?_
                                    refine lv_if_eq (tgt := 237) hx hb dL_reason_230 (by decide) (fun c_31 => ?_) (fun c_31 => ?_)
                                    · replace hE := hE.trans (if_pos c_31)
                                      refine lv_iconst (v := 0) hx hb dL_reason_237 (by decide) ?_
                                      refine lv_istore_n (lv' := [(3, .int 0), (8, .int 1), (7, .int (nI (i76 % 12))), (6, .int (nI (i76 / 12 % 12))), (5, .int (nI (i76 / 144))), (4, .int (nI i76)), (0, .ref (a 0)), (1, .int x2), (2, .int x3)]) hx hb dL_reason_238 rfl hl (by decide) rfl (fun ls hl => ?_)
                                      refine lv_iinc (v := (nI (i76 + 1))) (lv' := [(4, .int (nI (i76 + 1))), (3, .int 0), (8, .int 1), (7, .int (nI (i76 % 12))), (6, .int (nI (i76 / 12 % 12))), (5, .int (nI (i76 / 144))), (0, .ref (a 0)), (1, .int x2), (2, .int x3)]) hx hb dL_reason_239 hl (k := 5) rfl (nI_1 i76) (by decide) rfl (fun ls hl => ?_)
                                      refine lv_goto (tgt := 76) hx hb dL_reason_242 (by decide) ?_
                                      exact ih76 0 (i76 + 1) _ _ (by omega) (by omega) hP hS ls (lv_sub hl [0, 1, 6, 7, 8] rfl) hE
                                    · replace hE := hE.trans (if_neg c_31)
                                      refine lv_iconst (v := 1) hx hb dL_reason_233 (by decide) ?_
                                      refine lv_goto (tgt := 238) hx hb dL_reason_234 (by decide) ?_
                                      refine lv_istore_n (lv' := [(3, .int 1), (8, .int 1), (7, .int (nI (i76 % 12))), (6, .int (nI (i76 / 12 % 12))), (5, .int (nI (i76 / 144))), (4, .int (nI i76)), (0, .ref (a 0)), (1, .int x2), (2, .int x3)]) hx hb dL_reason_238 rfl hl (by decide) rfl (fun ls hl => ?_)
                                      refine lv_iinc (v := (nI (i76 + 1))) (lv' := [(4, .int (nI (i76 + 1))), (3, .int 1), (8, .int 1), (7, .int (nI (i76 % 12))), (6, .int (nI (i76 / 12 % 12))), (5, .int (nI (i76 / 144))), (0, .ref (a 0)), (1, .int x2), (2, .int x3)]) hx hb dL_reason_239 hl (k := 5) rfl (nI_1 i76) (by decide) rfl (fun ls hl => ?_)
                                      refine lv_goto (tgt := 76) hx hb dL_reason_242 (by decide) ?_
                                      exact ih76 1 (i76 + 1) _ _ (by omega) (by omega) hP hS ls (lv_sub hl [0, 1, 6, 7, 8] rfl) hE
                      · replace hE := hE.trans (if_neg c_21)
                        refine lv_iload hx hb dL_reason_148 (lv_at hl 0 rfl) ?_
                        refine lv_iload_n hx hb dL_reason_150 rfl (lv_at hl 7 rfl) ?_
                        refine lv_icmp_ne (tgt := 185) hx hb dL_reason_151 (by decide) (fun c_32 => ?_) (fun c_32 => ?_)
                        · replace hE := hE.trans (if_neg c_32)
                          refine lv_iconst (v := 0) hx hb dL_reason_185 (by decide) ?_
                          refine lv_istore (lv' := [(8, .int 0), (7, .int (nI (i76 % 12))), (6, .int (nI (i76 / 12 % 12))), (5, .int (nI (i76 / 144))), (4, .int (nI i76)), (3, .int x76_3), (0, .ref (a 0)), (1, .int x2), (2, .int x3)]) hx hb dL_reason_186 hl (by decide) rfl (fun ls hl => ?_)
                          refine lv_iload_n hx hb dL_reason_188 rfl (lv_at hl 5 rfl) ?_
                          refine lv_if_ne (tgt := 233) hx hb dL_reason_189 (by decide) (fun c_33 => ?_) (fun c_33 => ?_)
                          · replace hE := hE.trans (if_neg c_33)
                            refine lv_iconst (v := 1) hx hb dL_reason_233 (by decide) ?_
                            refine lv_goto (tgt := 238) hx hb dL_reason_234 (by decide) ?_
                            refine lv_istore_n (lv' := [(3, .int 1), (8, .int 0), (7, .int (nI (i76 % 12))), (6, .int (nI (i76 / 12 % 12))), (5, .int (nI (i76 / 144))), (4, .int (nI i76)), (0, .ref (a 0)), (1, .int x2), (2, .int x3)]) hx hb dL_reason_238 rfl hl (by decide) rfl (fun ls hl => ?_)
                            refine lv_iinc (v := (nI (i76 + 1))) (lv' := [(4, .int (nI (i76 + 1))), (3, .int 1), (8, .int 0), (7, .int (nI (i76 % 12))), (6, .int (nI (i76 / 12 % 12))), (5, .int (nI (i76 / 144))), (0, .ref (a 0)), (1, .int x2), (2, .int x3)]) hx hb dL_reason_239 hl (k := 5) rfl (nI_1 i76) (by decide) rfl (fun ls hl => ?_)
                            refine lv_goto (tgt := 76) hx hb dL_reason_242 (by decide) ?_
                            exact ih76 1 (i76 + 1) _ _ (by omega) (by omega) hP hS ls (lv_sub hl [0, 1, 6, 7, 8] rfl) hE
                          · replace hE := hE.trans (if_pos c_33)
                            refine lv_iload hx hb dL_reason_192 (lv_at hl 0 rfl) ?_
                            refine lv_if_eq (tgt := 237) hx hb dL_reason_194 (by decide) (fun _ => ?_) (fun c => absurd (by decide) c)
                            refine lv_iconst (v := 0) hx hb dL_reason_237 (by decide) ?_
                            refine lv_istore_n (lv' := [(3, .int 0), (8, .int 0), (7, .int (nI (i76 % 12))), (6, .int (nI (i76 / 12 % 12))), (5, .int (nI (i76 / 144))), (4, .int (nI i76)), (0, .ref (a 0)), (1, .int x2), (2, .int x3)]) hx hb dL_reason_238 rfl hl (by decide) rfl (fun ls hl => ?_)
                            refine lv_iinc (v := (nI (i76 + 1))) (lv' := [(4, .int (nI (i76 + 1))), (3, .int 0), (8, .int 0), (7, .int (nI (i76 % 12))), (6, .int (nI (i76 / 12 % 12))), (5, .int (nI (i76 / 144))), (0, .ref (a 0)), (1, .int x2), (2, .int x3)]) hx hb dL_reason_239 hl (k := 5) rfl (nI_1 i76) (by decide) rfl (fun ls hl => ?_)
                            refine lv_goto (tgt := 76) hx hb dL_reason_242 (by decide) ?_
                            exact ih76 0 (i76 + 1) _ _ (by omega) (by omega) hP hS ls (lv_sub hl [0, 1, 6, 7, 8] rfl) hE
                        · replace hE := hE.trans (if_pos c_32)
                          refine lv_aload_n hx hb dL_reason_154 rfl (lv_at hl 5 rfl) ?_
                          refine lv_iload hx hb dL_reason_155 (lv_at hl 2 rfl) ?_
                          refine kCallRi (va_runS (As := [.ref (a 0), .int (nI (i76 / 144))]) (rest := []) ⟨hx, hb, hml, hown, hts⟩ (c_L_isCommitted l E a (rset r 0 (upd (r 0) ((12 + x3)).toNatClampNeg (((r 0) 48) + 1))) (nI (i76 / 144)) (by first | assumption | exact tOK.nI (by omega)) _ rfl) (va_cwS 2 hts gL_reason_L_isCommitted rfl rfl rfl (by decide +kernel) ⟨Nat.le_of_ble_eq_true rfl, Nat.le_of_ble_eq_true rfl⟩) (kPreS hK hP) rfl rfl hl.1 rfl (lv_room (Nat.le_of_ble_eq_true rfl)) dL_reason_157 ⟨Nat.zero_le _, Nat.zero_le _⟩) ?_
                          refine lv_if_eq (tgt := 185) hx hb dL_reason_160 (by decide) (fun c_34 => ?_) (fun c_34 => ?_)
                          · replace hE := hE.trans (if_pos c_34)
                            refine lv_iconst (v := 0) hx hb dL_reason_185 (by decide) ?_
                            refine lv_istore (lv' := [(8, .int 0), (7, .int (nI (i76 % 12))), (6, .int (nI (i76 / 12 % 12))), (5, .int (nI (i76 / 144))), (4, .int (nI i76)), (3, .int x76_3), (0, .ref (a 0)), (1, .int x2), (2, .int x3)]) hx hb dL_reason_186 hl (by decide) rfl (fun ls hl => ?_)
                            refine lv_iload_n hx hb dL_reason_188 rfl (lv_at hl 5 rfl) ?_
                            refine lv_if_ne (tgt := 233) hx hb dL_reason_189 (by decide) (fun c_35 => ?_) (fun c_35 => ?_)
                            · replace hE := hE.trans (if_neg c_35)
                              refine lv_iconst (v := 1) hx hb dL_reason_233 (by decide) ?_
                              refine lv_goto (tgt := 238) hx hb dL_reason_234 (by decide) ?_
                              refine lv_istore_n (lv' := [(3, .int 1), (8, .int 0), (7, .int (nI (i76 % 12))), (6, .int (nI (i76 / 12 % 12))), (5, .int (nI (i76 / 144))), (4, .int (nI i76)), (0, .ref (a 0)), (1, .int x2), (2, .int x3)]) hx hb dL_reason_238 rfl hl (by decide) rfl (fun ls hl => ?_)
                              refine lv_iinc (v := (nI (i76 + 1))) (lv' := [(4, .int (nI (i76 + 1))), (3, .int 1), (8, .int 0), (7, .int (nI (i76 % 12))), (6, .int (nI (i76 / 12 % 12))), (5, .int (nI (i76 / 144))), (0, .ref (a 0)), (1, .int x2), (2, .int x3)]) hx hb dL_reason_239 hl (k := 5) rfl (nI_1 i76) (by decide) rfl (fun ls hl => ?_)
                              refine lv_goto (tgt := 76) hx hb dL_reason_242 (by decide) ?_
                              exact ih76 1 (i76 + 1) _ _ (by omega) (by omega) hP hS ls (lv_sub hl [0, 1, 6, 7, 8] rfl) hE
                            · replace hE := hE.trans (if_pos c_35)
                              refine lv_iload hx hb dL_reason_192 (lv_at hl 0 rfl) ?_
                              refine lv_if_eq (tgt := 237) hx hb dL_reason_194 (by decide) (fun _ => ?_) (fun c => absurd (by decide) c)
                              refine lv_iconst (v := 0) hx hb dL_reason_237 (by decide) ?_
                              refine lv_istore_n (lv' := [(3, .int 0), (8, .int 0), (7, .int (nI (i76 % 12))), (6, .int (nI (i76 / 12 % 12))), (5, .int (nI (i76 / 144))), (4, .int (nI i76)), (0, .ref (a 0)), (1, .int x2), (2, .int x3)]) hx hb dL_reason_238 rfl hl (by decide) rfl (fun ls hl => ?_)
                              refine lv_iinc (v := (nI (i76 + 1))) (lv' := [(4, .int (nI (i76 + 1))), (3, .int 0), (8, .int 0), (7, .int (nI (i76 % 12))), (6, .int (nI (i76 / 12 % 12))), (5, .int (nI (i76 / 144))), (0, .ref (a 0)), (1, .int x2), (2, .int x3)]) hx hb dL_reason_239 hl (k := 5) rfl (nI_1 i76) (by decide) rfl (fun ls hl => ?_)
                              refine lv_goto (tgt := 76) hx hb dL_reason_242 (by decide) ?_
                              exact ih76 0 (i76 + 1) _ _ (by omega) (by omega) hP hS ls (lv_sub hl [0, 1, 6, 7, 8] rfl) hE
                          · replace hE := hE.trans (if_neg c_34)
                            refine lv_aload_n hx hb dL_reason_163 rfl (lv_at hl 5 rfl) ?_
                            refine lv_iload hx hb dL_reason_164 (lv_at hl 1 rfl) ?_
                            refine kCallRi (va_runS (As := [.ref (a 0), .int (nI (i76 / 12 % 12))]) (rest := []) ⟨hx, hb, hml, hown, hts⟩ (c_L_isCommitted l E a (rset r 0 (upd (r 0) ((12 + x3)).toNatClampNeg (((r 0) 48) + 1))) (nI (i76 / 12 % 12)) (by first | assumption | exact tOK.nI (by omega)) _ rfl) (va_cwS 2 hts gL_reason_L_isCommitted rfl rfl rfl (by decide +kernel) ⟨Nat.le_of_ble_eq_true rfl, Nat.le_of_ble_eq_true rfl⟩) (kPreS hK hP) rfl rfl hl.1 rfl (lv_room (Nat.le_of_ble_eq_true rfl)) dL_reason_166 ⟨Nat.zero_le _, Nat.zero_le _⟩) ?_
                            refine lv_if_eq (tgt := 185) hx hb dL_reason_169 (by decide) (fun c_36 => ?_) (fun c_36 => ?_)
                            · replace hE := hE.trans (if_pos c_36)
                              refine lv_iconst (v := 0) hx hb dL_reason_185 (by decide) ?_
                              refine lv_istore (lv' := [(8, .int 0), (7, .int (nI (i76 % 12))), (6, .int (nI (i76 / 12 % 12))), (5, .int (nI (i76 / 144))), (4, .int (nI i76)), (3, .int x76_3), (0, .ref (a 0)), (1, .int x2), (2, .int x3)]) hx hb dL_reason_186 hl (by decide) rfl (fun ls hl => ?_)
                              refine lv_iload_n hx hb dL_reason_188 rfl (lv_at hl 5 rfl) ?_
                              refine lv_if_ne (tgt := 233) hx hb dL_reason_189 (by decide) (fun c_37 => ?_) (fun c_37 => ?_)
                              · replace hE := hE.trans (if_neg c_37)
                                refine lv_iconst (v := 1) hx hb dL_reason_233 (by decide) ?_
                                refine lv_goto (tgt := 238) hx hb dL_reason_234 (by decide) ?_
                                refine lv_istore_n (lv' := [(3, .int 1), (8, .int 0), (7, .int (nI (i76 % 12))), (6, .int (nI (i76 / 12 % 12))), (5, .int (nI (i76 / 144))), (4, .int (nI i76)), (0, .ref (a 0)), (1, .int x2), (2, .int x3)]) hx hb dL_reason_238 rfl hl (by decide) rfl (fun ls hl => ?_)
                                refine lv_iinc (v := (nI (i76 + 1))) (lv' := [(4, .int (nI (i76 + 1))), (3, .int 1), (8, .int 0), (7, .int (nI (i76 % 12))), (6, .int (nI (i76 / 12 % 12))), (5, .int (nI (i76 / 144))), (0, .ref (a 0)), (1, .int x2), (2, .int x3)]) hx hb dL_reason_239 hl (k := 5) rfl (nI_1 i76) (by decide) rfl (fun ls hl => ?_)
                                refine lv_goto (tgt := 76) hx hb dL_reason_242 (by decide) ?_
                                exact ih76 1 (i76 + 1) _ _ (by omega) (by omega) hP hS ls (lv_sub hl [0, 1, 6, 7, 8] rfl) hE
                              · replace hE := hE.trans (if_pos c_37)
                                refine lv_iload hx hb dL_reason_192 (lv_at hl 0 rfl) ?_
                                refine lv_if_eq (tgt := 237) hx hb dL_reason_194 (by decide) (fun _ => ?_) (fun c => absurd (by decide) c)
                                refine lv_iconst (v := 0) hx hb dL_reason_237 (by decide) ?_
                                refine lv_istore_n (lv' := [(3, .int 0), (8, .int 0), (7, .int (nI (i76 % 12))), (6, .int (nI (i76 / 12 % 12))), (5, .int (nI (i76 / 144))), (4, .int (nI i76)), (0, .ref (a 0)), (1, .int x2), (2, .int x3)]) hx hb dL_reason_238 rfl hl (by decide) rfl (fun ls hl => ?_)
                                refine lv_iinc (v := (nI (i76 + 1))) (lv' := [(4, .int (nI (i76 + 1))), (3, .int 0), (8, .int 0), (7, .int (nI (i76 % 12))), (6, .int (nI (i76 / 12 % 12))), (5, .int (nI (i76 / 144))), (0, .ref (a 0)), (1, .int x2), (2, .int x3)]) hx hb dL_reason_239 hl (k := 5) rfl (nI_1 i76) (by decide) rfl (fun ls hl => ?_)
                                refine lv_goto (tgt := 76) hx hb dL_reason_242 (by decide) ?_
                                exact ih76 0 (i76 + 1) _ _ (by omega) (by omega) hP hS ls (lv_sub hl [0, 1, 6, 7, 8] rfl) hE
                            · replace hE := hE.trans (if_neg c_36)
                              refine lv_aload_n hx hb dL_reason_172 rfl (lv_at hl 5 rfl) ?_
                              refine lv_iload hx hb dL_reason_173 (lv_at hl 0 rfl) ?_
                              refine kCallRi (va_runS (As := [.ref (a 0), .int (nI (i76 % 12))]) (rest := []) ⟨hx, hb, hml, hown, hts⟩ (c_L_isCommitted l E a (rset r 0 (upd (r 0) ((12 + x3)).toNatClampNeg (((r 0) 48) + 1))) (nI (i76 % 12)) (by first | assumption | exact tOK.nI (by omega)) _ rfl) (va_cwS 2 hts gL_reason_L_isCommitted rfl rfl rfl (by decide +kernel) ⟨Nat.le_of_ble_eq_true rfl, Nat.le_of_ble_eq_true rfl⟩) (kPreS hK hP) rfl rfl hl.1 rfl (lv_room (Nat.le_of_ble_eq_true rfl)) dL_reason_175 ⟨Nat.zero_le _, Nat.zero_le _⟩) ?_
                              refine lv_if_eq (tgt := 185) hx hb dL_reason_178 (by decide) (fun c_38 => ?_) (fun c_38 => ?_)
                              · replace hE := hE.trans (if_pos c_38)
                                refine lv_iconst (v := 0) hx hb dL_reason_185 (by decide) ?_
                                refine lv_istore (lv' := [(8, .int 0), (7, .int (nI (i76 % 12))), (6, .int (nI (i76 / 12 % 12))), (5, .int (nI (i76 / 144))), (4, .int (nI i76)), (3, .int x76_3), (0, .ref (a 0)), (1, .int x2), (2, .int x3)]) hx hb dL_reason_186 hl (by decide) rfl (fun ls hl => ?_)
                                refine lv_iload_n hx hb dL_reason_188 rfl (lv_at hl 5 rfl) ?_
                                refine lv_if_ne (tgt := 233) hx hb dL_reason_189 (by decide) (fun c_39 => ?_) (fun c_39 => ?_)
                                · replace hE := hE.trans (if_neg c_39)
                                  refine lv_iconst (v := 1) hx hb dL_reason_233 (by decide) ?_
                                  refine lv_goto (tgt := 238) hx hb dL_reason_234 (by decide) ?_
                                  refine lv_istore_n (lv' := [(3, .int 1), (8, .int 0), (7, .int (nI (i76 % 12))), (6, .int (nI (i76 / 12 % 12))), (5, .int (nI (i76 / 144))), (4, .int (nI i76)), (0, .ref (a 0)), (1, .int x2), (2, .int x3)]) hx hb dL_reason_238 rfl hl (by decide) rfl (fun ls hl => ?_)
                                  refine lv_iinc (v := (nI (i76 + 1))) (lv' := [(4, .int (nI (i76 + 1))), (3, .int 1), (8, .int 0), (7, .int (nI (i76 % 12))), (6, .int (nI (i76 / 12 % 12))), (5, .int (nI (i76 / 144))), (0, .ref (a 0)), (1, .int x2), (2, .int x3)]) hx hb dL_reason_239 hl (k := 5) rfl (nI_1 i76) (by decide) rfl (fun ls hl => ?_)
                                  refine lv_goto (tgt := 76) hx hb dL_reason_242 (by decide) ?_
                                  exact ih76 1 (i76 + 1) _ _ (by omega) (by omega) hP hS ls (lv_sub hl [0, 1, 6, 7, 8] rfl) hE
                                · replace hE := hE.trans (if_pos c_39)
                                  refine lv_iload hx hb dL_reason_192 (lv_at hl 0 rfl) ?_
                                  refine lv_if_eq (tgt := 237) hx hb dL_reason_194 (by decide) (fun _ => ?_) (fun c => absurd (by decide) c)
                                  refine lv_iconst (v := 0) hx hb dL_reason_237 (by decide) ?_
                                  refine lv_istore_n (lv' := [(3, .int 0), (8, .int 0), (7, .int (nI (i76 % 12))), (6, .int (nI (i76 / 12 % 12))), (5, .int (nI (i76 / 144))), (4, .int (nI i76)), (0, .ref (a 0)), (1, .int x2), (2, .int x3)]) hx hb dL_reason_238 rfl hl (by decide) rfl (fun ls hl => ?_)
                                  refine lv_iinc (v := (nI (i76 + 1))) (lv' := [(4, .int (nI (i76 + 1))), (3, .int 0), (8, .int 0), (7, .int (nI (i76 % 12))), (6, .int (nI (i76 / 12 % 12))), (5, .int (nI (i76 / 144))), (0, .ref (a 0)), (1, .int x2), (2, .int x3)]) hx hb dL_reason_239 hl (k := 5) rfl (nI_1 i76) (by decide) rfl (fun ls hl => ?_)
                                  refine lv_goto (tgt := 76) hx hb dL_reason_242 (by decide) ?_
                                  exact ih76 0 (i76 + 1) _ _ (by omega) (by omega) hP hS ls (lv_sub hl [0, 1, 6, 7, 8] rfl) hE
                              · replace hE := hE.trans (if_neg c_38)
                                refine lv_iconst (v := 1) hx hb dL_reason_181 (by decide) ?_
                                refine lv_goto (tgt := 186) hx hb dL_reason_182 (by decide) ?_
                                refine lv_istore (lv' := [(8, .int 1), (7, .int (nI (i76 % 12))), (6, .int (nI (i76 / 12 % 12))), (5, .int (nI (i76 / 144))), (4, .int (nI i76)), (3, .int x76_3), (0, .ref (a 0)), (1, .int x2), (2, .int x3)]) hx hb dL_reason_186 hl (by decide) rfl (fun ls hl => ?_)
                                refine lv_iload_n hx hb dL_reason_188 rfl (lv_at hl 5 rfl) ?_
                                refine lv_if_ne (tgt := 233) hx hb dL_reason_189 (by decide) (fun c_40 => ?_) (fun c_40 => ?_)
                                · replace hE := hE.trans (if_neg c_40)
                                  refine lv_iconst (v := 1) hx hb dL_reason_233 (by decide) ?_
                                  refine lv_goto (tgt := 238) hx hb dL_reason_234 (by decide) ?_
                                  refine lv_istore_n (lv' := [(3, .int 1), (8, .int 1), (7, .int (nI (i76 % 12))), (6, .int (nI (i76 / 12 % 12))), (5, .int (nI (i76 / 144))), (4, .int (nI i76)), (0, .ref (a 0)), (1, .int x2), (2, .int x3)]) hx hb dL_reason_238 rfl hl (by decide) rfl (fun ls hl => ?_)
                                  refine lv_iinc (v := (nI (i76 + 1))) (lv' := [(4, .int (nI (i76 + 1))), (3, .int 1), (8, .int 1), (7, .int (nI (i76 % 12))), (6, .int (nI (i76 / 12 % 12))), (5, .int (nI (i76 / 144))), (0, .ref (a 0)), (1, .int x2), (2, .int x3)]) hx hb dL_reason_239 hl (k := 5) rfl (nI_1 i76) (by decide) rfl (fun ls hl => ?_)
                                  refine lv_goto (tgt := 76) hx hb dL_reason_242 (by decide) ?_
                                  exact ih76 1 (i76 + 1) _ _ (by omega) (by omega) hP hS ls (lv_sub hl [0, 1, 6, 7, 8] rfl) hE
                                · replace hE := hE.trans (if_pos c_40)
                                  refine lv_iload hx hb dL_reason_192 (lv_at hl 0 rfl) ?_
                                  refine lv_if_eq (tgt := 237) hx hb dL_reason_194 (by decide) (fun c => absurd c (by decide)) (fun _ => ?_)
                                  refine lv_aload_n hx hb dL_reason_197 rfl (lv_at hl 6 rfl) ?_
                                  refine lv_iload hx hb dL_reason_198 (lv_at hl 3 rfl) ?_
                                  refine lv_iload hx hb dL_reason_200 (lv_at hl 2 rfl) ?_
                                  refine kCallRi (va_runS (As := [.ref (a 0), .int (nI (i76 / 144)), .int (nI (i76 / 12 % 12))]) (rest := []) ⟨hx, hb, hml, hown, hts⟩ (c_L_isEdge l E a (rset r 0 (upd (r 0) ((12 + x3)).toNatClampNeg (((r 0) 48) + 1))) (nI (i76 / 144)) (nI (i76 / 12 % 12)) (by first | assumption | exact tOK.nI (by omega)) (by first | assumption | exact tOK.nI (by omega)) _ rfl) (va_cwS 3 hts gL_reason_L_isEdge rfl rfl rfl (by decide +kernel) ⟨Nat.le_of_ble_eq_true rfl, Nat.le_of_ble_eq_true rfl⟩) (kPreS hK hP) rfl rfl hl.1 rfl (lv_room (Nat.le_of_ble_eq_true rfl)) dL_reason_202 ⟨Nat.zero_le _, Nat.zero_le _⟩) ?_
                                  refine lv_if_eq (tgt := 237) hx hb dL_reason_205 (by decide) (fun c_41 => ?_) (fun c_41 => ?_)
                                  · replace hE := hE.trans (if_pos c_41)
                                    refine lv_iconst (v := 0) hx hb dL_reason_237 (by decide) ?_
                                    refine lv_istore_n (lv' := [(3, .int 0), (8, .int 1), (7, .int (nI (i76 % 12))), (6, .int (nI (i76 / 12 % 12))), (5, .int (nI (i76 / 144))), (4, .int (nI i76)), (0, .ref (a 0)), (1, .int x2), (2, .int x3)]) hx hb dL_reason_238 rfl hl (by decide) rfl (fun ls hl => ?_)
                                    refine lv_iinc (v := (nI (i76 + 1))) (lv' := [(4, .int (nI (i76 + 1))), (3, .int 0), (8, .int 1), (7, .int (nI (i76 % 12))), (6, .int (nI (i76 / 12 % 12))), (5, .int (nI (i76 / 144))), (0, .ref (a 0)), (1, .int x2), (2, .int x3)]) hx hb dL_reason_239 hl (k := 5) rfl (nI_1 i76) (by decide) rfl (fun ls hl => ?_)
                                    refine lv_goto (tgt := 76) hx hb dL_reason_242 (by decide) ?_
                                    exact ih76 0 (i76 + 1) _ _ (by omega) (by omega) hP hS ls (lv_sub hl [0, 1, 6, 7, 8] rfl) hE
                                  · replace hE := hE.trans (if_neg c_41)
                                    refine lv_aload_n hx hb dL_reason_208 rfl (lv_at hl 6 rfl) ?_
                                    refine lv_iload hx hb dL_reason_209 (lv_at hl 2 rfl) ?_
                                    refine lv_iload hx hb dL_reason_211 (lv_at hl 1 rfl) ?_
                                    refine kCallRi (va_runS (As := [.ref (a 0), .int (nI (i76 / 12 % 12)), .int (nI (i76 % 12))]) (rest := []) ⟨hx, hb, hml, hown, hts⟩ (c_L_isEdge l E a (rset r 0 (upd (r 0) ((12 + x3)).toNatClampNeg (((r 0) 48) + 1))) (nI (i76 / 12 % 12)) (nI (i76 % 12)) (by first | assumption | exact tOK.nI (by omega)) (by first | assumption | exact tOK.nI (by omega)) _ rfl) (va_cwS 3 hts gL_reason_L_isEdge rfl rfl rfl (by decide +kernel) ⟨Nat.le_of_ble_eq_true rfl, Nat.le_of_ble_eq_true rfl⟩) (kPreS hK hP) rfl rfl hl.1 rfl (lv_room (Nat.le_of_ble_eq_true rfl)) dL_reason_213 ⟨Nat.zero_le _, Nat.zero_le _⟩) ?_
                                    refine lv_if_eq (tgt := 237) hx hb dL_reason_216 (by decide) (fun c_42 => ?_) (fun c_42 => ?_)
                                    · replace hE := hE.trans (if_pos c_42)
                                      refine lv_iconst (v := 0) hx hb dL_reason_237 (by decide) ?_
                                      refine lv_istore_n (lv' := [(3, .int 0), (8, .int 1), (7, .int (nI (i76 % 12))), (6, .int (nI (i76 / 12 % 12))), (5, .int (nI (i76 / 144))), (4, .int (nI i76)), (0, .ref (a 0)), (1, .int x2), (2, .int x3)]) hx hb dL_reason_238 rfl hl (by decide) rfl (fun ls hl => ?_)
                                      refine lv_iinc (v := (nI (i76 + 1))) (lv' := [(4, .int (nI (i76 + 1))), (3, .int 0), (8, .int 1), (7, .int (nI (i76 % 12))), (6, .int (nI (i76 / 12 % 12))), (5, .int (nI (i76 / 144))), (0, .ref (a 0)), (1, .int x2), (2, .int x3)]) hx hb dL_reason_239 hl (k := 5) rfl (nI_1 i76) (by decide) rfl (fun ls hl => ?_)
                                      refine lv_goto (tgt := 76) hx hb dL_reason_242 (by decide) ?_
                                      exact ih76 0 (i76 + 1) _ _ (by omega) (by omega) hP hS ls (lv_sub hl [0, 1, 6, 7, 8] rfl) hE
                                    · replace hE := hE.trans (if_neg c_42)
                                      refine lv_aload_n hx hb dL_reason_219 rfl (lv_at hl 6 rfl) ?_
                                      refine lv_iload_n hx hb dL_reason_220 rfl (lv_at hl 7 rfl) ?_
                                      refine lv_iload hx hb dL_reason_221 (lv_at hl 3 rfl) ?_
                                      refine lv_iload hx hb dL_reason_223 (lv_at hl 2 rfl) ?_
                                      refine lv_iload hx hb dL_reason_225 (lv_at hl 1 rfl) ?_
                                      refine kCallRi (va_runS (As := [.ref (a 0), .int x2, .int (nI (i76 / 144)), .int (nI (i76 / 12 % 12)), .int (nI (i76 % 12))]) (rest := []) ⟨hx, hb, hml, hown, hts⟩ (c_L_counts l E a (rset r 0 (upd (r 0) ((12 + x3)).toNatClampNeg (((r 0) 48) + 1))) x2 (nI (i76 / 144)) (nI (i76 / 12 % 12)) (nI (i76 % 12)) (by first | assumption | exact tOK.nI (by omega)) (by first | assumption | exact tOK.nI (by omega)) (by first | assumption | exact tOK.nI (by omega)) _ rfl) (va_cwS 5 hts gL_reason_L_counts rfl rfl rfl (by decide +kernel) ⟨Nat.le_of_ble_eq_true rfl, Nat.le_of_ble_eq_true rfl⟩) (kPreS hK hP) rfl rfl hl.1 rfl (lv_room (Nat.le_of_ble_eq_true rfl)) dL_reason_227 ⟨Nat.zero_le _, Nat.zero_le _⟩) ?_
                                      refine lv_if_eq (tgt := 237) hx hb dL_reason_230 (by decide) (fun c_43 => ?_) (fun c_43 => ?_)
                                      · replace hE := hE.trans (if_pos c_43)
                                        refine lv_iconst (v := 0) hx hb dL_reason_237 (by decide) ?_
                                        refine lv_istore_n (lv' := [(3, .int 0), (8, .int 1), (7, .int (nI (i76 % 12))), (6, .int (nI (i76 / 12 % 12))), (5, .int (nI (i76 / 144))), (4, .int (nI i76)), (0, .ref (a 0)), (1, .int x2), (2, .int x3)]) hx hb dL_reason_238 rfl hl (by decide) rfl (fun ls hl => ?_)
                                        refine lv_iinc (v := (nI (i76 + 1))) (lv' := [(4, .int (nI (i76 + 1))), (3, .int 0), (8, .int 1), (7, .int (nI (i76 % 12))), (6, .int (nI (i76 / 12 % 12))), (5, .int (nI (i76 / 144))), (0, .ref (a 0)), (1, .int x2), (2, .int x3)]) hx hb dL_reason_239 hl (k := 5) rfl (nI_1 i76) (by decide) rfl (fun ls hl => ?_)
                                        refine lv_goto (tgt := 76) hx hb dL_reason_242 (by decide) ?_
                                        exact ih76 0 (i76 + 1) _ _ (by omega) (by omega) hP hS ls (lv_sub hl [0, 1, 6, 7, 8] rfl) hE
                                      · replace hE := hE.trans (if_neg c_43)
                                        refine lv_iconst (v := 1) hx hb dL_reason_233 (by decide) ?_
                                        refine lv_goto (tgt := 238) hx hb dL_reason_234 (by decide) ?_
                                        refine lv_istore_n (lv' := [(3, .int 1), (8, .int 1), (7, .int (nI (i76 % 12))), (6, .int (nI (i76 / 12 % 12))), (5, .int (nI (i76 / 144))), (4, .int (nI i76)), (0, .ref (a 0)), (1, .int x2), (2, .int x3)]) hx hb dL_reason_238 rfl hl (by decide) rfl (fun ls hl => ?_)
                                        refine lv_iinc (v := (nI (i76 + 1))) (lv' := [(4, .int (nI (i76 + 1))), (3, .int 1), (8, .int 1), (7, .int (nI (i76 % 12))), (6, .int (nI (i76 / 12 % 12))), (5, .int (nI (i76 / 144))), (0, .ref (a 0)), (1, .int x2), (2, .int x3)]) hx hb dL_reason_239 hl (k := 5) rfl (nI_1 i76) (by decide) rfl (fun ls hl => ?_)
                                        refine lv_goto (tgt := 76) hx hb dL_reason_242 (by decide) ?_
                                        exact ih76 1 (i76 + 1) _ _ (by omega) (by omega) hP hS ls (lv_sub hl [0, 1, 6, 7, 8] rfl) hE
        exact lp76 1729 0 0 _ _ (by omega) (by omega) hP hS ls (lv_sub hl [0, 1, 2, 3, 4] rfl) hE
      · replace hE := hE.trans (if_neg c_1)
        have hbc_1 : i2 < 12 := nOK.lt (by assumption) (by omega) c_1
        refine lv_iload_n hx hb dL_reason_10 rfl (lv_at hl 0 rfl) ?_
        refine lv_iload_n hx hb dL_reason_11 rfl (lv_at hl 3 rfl) ?_
        refine lv_icmp_eq (tgt := 53) hx hb dL_reason_12 (by decide) (fun c_44 => ?_) (fun c_44 => ?_)
        · replace hE := hE.trans (if_pos c_44)
          refine lv_iinc (v := (nI (i2 + 1))) (lv' := [(3, .int (nI (i2 + 1))), (0, .ref (a 0)), (1, .int x2), (2, .int x3)]) hx hb dL_reason_53 hl (k := 0) rfl (nI_1 i2) (by decide) rfl (fun ls hl => ?_)
          refine lv_goto (tgt := 2) hx hb dL_reason_56 (by decide) ?_
          exact ih2 (i2 + 1) _ _ (by omega) (by omega) hP hS ls (lv_sub hl [0, 1, 2, 3] rfl) hE
        · replace hE := hE.trans (if_neg c_44)
          refine lv_aload_n hx hb dL_reason_15 rfl (lv_at hl 1 rfl) ?_
          refine lv_iload_n hx hb dL_reason_16 rfl (lv_at hl 0 rfl) ?_
          refine kCallRi (va_runS (As := [.ref (a 0), .int (nI i2)]) (rest := []) ⟨hx, hb, hml, hown, hts⟩ (c_L_isCommitted l E a r (nI i2) (by first | assumption | exact tOK.nI (by omega)) _ rfl) (va_cwS 2 hts gL_reason_L_isCommitted rfl rfl rfl (by decide +kernel) ⟨Nat.le_of_ble_eq_true rfl, Nat.le_of_ble_eq_true rfl⟩) (kPreS hK hP) rfl rfl hl.1 rfl (lv_room (Nat.le_of_ble_eq_true rfl)) dL_reason_17 ⟨Nat.zero_le _, Nat.zero_le _⟩) ?_
          refine lv_if_eq (tgt := 53) hx hb dL_reason_20 (by decide) (fun c_45 => ?_) (fun c_45 => ?_)
          · replace hE := hE.trans (if_pos c_45)
            refine lv_iinc (v := (nI (i2 + 1))) (lv' := [(3, .int (nI (i2 + 1))), (0, .ref (a 0)), (1, .int x2), (2, .int x3)]) hx hb dL_reason_53 hl (k := 0) rfl (nI_1 i2) (by decide) rfl (fun ls hl => ?_)
            refine lv_goto (tgt := 2) hx hb dL_reason_56 (by decide) ?_
            exact ih2 (i2 + 1) _ _ (by omega) (by omega) hP hS ls (lv_sub hl [0, 1, 2, 3] rfl) hE
          · replace hE := hE.trans (if_neg c_45)
            refine lv_aload_n hx hb dL_reason_23 rfl (lv_at hl 1 rfl) ?_
            refine lv_bipush (v := 12) hx hb dL_reason_24 (by decide) ?_
            refine lv_iload_n hx hb dL_reason_26 rfl (lv_at hl 0 rfl) ?_
            refine lv_iadd hx hb dL_reason_27 ?_
            refine va_iald (D := E.1) hx hb hK.1 hP 0 0 rfl rfl (rIn 12 (by decide) (by first | assumption | exact tOK.nI (by omega))) dL_reason_28 ?_
            refine lv_aload_n hx hb dL_reason_29 rfl (lv_at hl 1 rfl) ?_
            refine lv_iload_n hx hb dL_reason_30 rfl (lv_at hl 3 rfl) ?_
            refine va_iald (D := E.1) hx hb hK.1 hP 0 0 rfl rfl (rIn0 (by first | assumption | exact tOK.nI (by omega))) dL_reason_31 ?_
            refine lv_icmp_le (tgt := 53) hx hb dL_reason_32 (by decide) (fun c_46 => ?_) (fun c_46 => ?_)
            · replace hE := hE.trans (if_pos c_46)
              refine lv_iinc (v := (nI (i2 + 1))) (lv' := [(3, .int (nI (i2 + 1))), (0, .ref (a 0)), (1, .int x2), (2, .int x3)]) hx hb dL_reason_53 hl (k := 0) rfl (nI_1 i2) (by decide) rfl (fun ls hl => ?_)
              refine lv_goto (tgt := 2) hx hb dL_reason_56 (by decide) ?_
              exact ih2 (i2 + 1) _ _ (by omega) (by omega) hP hS ls (lv_sub hl [0, 1, 2, 3] rfl) hE
            · replace hE := hE.trans (if_neg c_46)
              refine lv_aload_n hx hb dL_reason_35 rfl (lv_at hl 1 rfl) ?_
              refine lv_bipush (v := 36) hx hb dL_reason_36 (by decide) ?_
              refine lv_iload_n hx hb dL_reason_38 rfl (lv_at hl 0 rfl) ?_
              refine lv_iadd hx hb dL_reason_39 ?_
              refine va_iald (D := E.1) hx hb hK.1 hP 0 0 rfl rfl (rIn 36 (by decide) (by first | assumption | exact tOK.nI (by omega))) dL_reason_40 ?_
              refine lv_aload_n hx hb dL_reason_41 rfl (lv_at hl 1 rfl) ?_
              refine lv_bipush (v := 36) hx hb dL_reason_42 (by decide) ?_
              refine lv_iload_n hx hb dL_reason_44 rfl (lv_at hl 3 rfl) ?_
              refine lv_iadd hx hb dL_reason_45 ?_
              refine va_iald (D := E.1) hx hb hK.1 hP 0 0 rfl rfl (rIn 36 (by decide) (by first | assumption | exact tOK.nI (by omega))) dL_reason_46 ?_
              refine lv_iand hx hb dL_reason_47 ?_
              refine lv_if_eq (tgt := 53) hx hb dL_reason_48 (by decide) (fun c_47 => ?_) (fun c_47 => ?_)
              · replace hE := hE.trans (if_pos c_47)
                refine lv_iinc (v := (nI (i2 + 1))) (lv' := [(3, .int (nI (i2 + 1))), (0, .ref (a 0)), (1, .int x2), (2, .int x3)]) hx hb dL_reason_53 hl (k := 0) rfl (nI_1 i2) (by decide) rfl (fun ls hl => ?_)
                refine lv_goto (tgt := 2) hx hb dL_reason_56 (by decide) ?_
                exact ih2 (i2 + 1) _ _ (by omega) (by omega) hP hS ls (lv_sub hl [0, 1, 2, 3] rfl) hE
              · replace hE := hE.trans (if_neg c_47)
                refine lv_iconst (v := 1) hx hb dL_reason_51 (by decide) ?_
                subst R
                exact W.iret (v := 1) hx hb hr (fun t ht hW => ⟨rfl, by rw [ht]; exact hP, hS.F ht⟩) hS.2.2 dL_reason_52
  exact lp2 13 0 _ _ (by omega) (by omega) hP hS ls (lv_sub hl [0, 1, 2, 3] rfl) hE
def mL_safety_K54 (r : kG) (x2 : Int32) (x7_2 : Int32) (x7_3 : Int32) (i7 : Nat) (rec : Int32 → Int32 → Nat → (Int32)) (x54_2 : Int32) (x54_3 : Int32) (i54 : Nat) : Int32 :=
  rec x54_2 x54_3 (i7 + 1)
theorem mL_safety_K54_s {r : kG} {x2 : Int32} {x7_2 : Int32} {x7_3 : Int32} {i7 : Nat} {rec : Int32 → Int32 → Nat → (Int32)} {x54_2 : Int32} {x54_3 : Int32} {i54 : Nat} : mL_safety_K54 r x2 x7_2 x7_3 i7 rec x54_2 x54_3 i54 = (
  rec x54_2 x54_3 (i7 + 1) : Int32) := rfl
def mL_safety_L54 (r : kG) (x2 : Int32) (x7_2 : Int32) (x7_3 : Int32) (i7 : Nat) (kk : Int32 → Int32 → Nat → (Int32)) : Nat → Int32 → Int32 → Nat → (Int32)
  | 0, _, _, _ => 0
  | n54 + 1, x54_2, x54_3, i54 =>
    if ((r 0) 49) ≤ (nI i54) then
      kk x54_2 x54_3 i54
    else
      if x54_3 = 0 then
        if (mL_isCommitted r (nI i7)) = 0 then
          mL_safety_L54 r x2 x7_2 x7_3 i7 kk n54 x54_2 0 (i54 + 1)
        else
          if (mL_isEdge r (nI i7) (nI i54)) = 0 then
            mL_safety_L54 r x2 x7_2 x7_3 i7 kk n54 x54_2 0 (i54 + 1)
          else
            if (mL_isCommitted r (nI i54)) = 0 then
              mL_safety_L54 r x2 x7_2 x7_3 i7 kk n54 x54_2 0 (i54 + 1)
            else
              if ((r 0) (x2).toNatClampNeg) ≤ ((r 0) ((12 + (nI i54))).toNatClampNeg) then
                mL_safety_L54 r x2 x7_2 x7_3 i7 kk n54 x54_2 0 (i54 + 1)
              else
                mL_safety_L54 r x2 x7_2 x7_3 i7 kk n54 x54_2 1 (i54 + 1)
      else
        mL_safety_L54 r x2 x7_2 x7_3 i7 kk n54 x54_2 1 (i54 + 1)
theorem mL_safety_L54_s {r : kG} {x2 : Int32} {x7_2 : Int32} {x7_3 : Int32} {i7 : Nat} {kk : Int32 → Int32 → Nat → (Int32)} {n54 : Nat} {x54_2 : Int32} {x54_3 : Int32} {i54 : Nat} : mL_safety_L54 r x2 x7_2 x7_3 i7 kk (n54 + 1) x54_2 x54_3 i54 = (
    if ((r 0) 49) ≤ (nI i54) then
      kk x54_2 x54_3 i54
    else
      if x54_3 = 0 then
        if (mL_isCommitted r (nI i7)) = 0 then
          mL_safety_L54 r x2 x7_2 x7_3 i7 kk n54 x54_2 0 (i54 + 1)
        else
          if (mL_isEdge r (nI i7) (nI i54)) = 0 then
            mL_safety_L54 r x2 x7_2 x7_3 i7 kk n54 x54_2 0 (i54 + 1)
          else
            if (mL_isCommitted r (nI i54)) = 0 then
              mL_safety_L54 r x2 x7_2 x7_3 i7 kk n54 x54_2 0 (i54 + 1)
            else
              if ((r 0) (x2).toNatClampNeg) ≤ ((r 0) ((12 + (nI i54))).toNatClampNeg) then
                mL_safety_L54 r x2 x7_2 x7_3 i7 kk n54 x54_2 0 (i54 + 1)
              else
                mL_safety_L54 r x2 x7_2 x7_3 i7 kk n54 x54_2 1 (i54 + 1)
      else
        mL_safety_L54 r x2 x7_2 x7_3 i7 kk n54 x54_2 1 (i54 + 1) : Int32) := rfl
def mL_safety_L7 (r : kG) (x2 : Int32) : Nat → Int32 → Int32 → Nat → (Int32)
  | 0, _, _, _ => 0
  | n7 + 1, x7_2, x7_3, i7 =>
    if ((r 0) 49) ≤ (nI i7) then
      if ((r 0) ((12 + x2)).toNatClampNeg) < 0 then
        (-6)
      else
        if ((r 0) ((36 + x2)).toNatClampNeg) = 0 then
          if x7_3 = 0 then
            if x7_2 = 0 then
              2
            else
              1
          else
            0
        else
          (-6)
    else
      if ((((r 0) ((50 + x2)).toNatClampNeg) >>> ((nI i7) &&& 31)) &&& 1) = 1 then
        if x7_2 = 0 then
          mL_safety_L54 r x2 x7_2 x7_3 i7 (mL_safety_K54 r x2 x7_2 x7_3 i7 (mL_safety_L7 r x2 n7)) 13 0 x7_3 0
        else
          if ((r 0) ((12 + (nI i7))).toNatClampNeg) = 0 then
            mL_safety_L54 r x2 x7_2 x7_3 i7 (mL_safety_K54 r x2 x7_2 x7_3 i7 (mL_safety_L7 r x2 n7)) 13 0 x7_3 0
          else
            mL_safety_L54 r x2 x7_2 x7_3 i7 (mL_safety_K54 r x2 x7_2 x7_3 i7 (mL_safety_L7 r x2 n7)) 13 1 x7_3 0
      else
        mL_safety_L7 r x2 n7 x7_2 x7_3 (i7 + 1)
theorem mL_safety_L7_s {r : kG} {x2 : Int32} {n7 : Nat} {x7_2 : Int32} {x7_3 : Int32} {i7 : Nat} : mL_safety_L7 r x2 (n7 + 1) x7_2 x7_3 i7 = (
    if ((r 0) 49) ≤ (nI i7) then
      if ((r 0) ((12 + x2)).toNatClampNeg) < 0 then
        (-6)
      else
        if ((r 0) ((36 + x2)).toNatClampNeg) = 0 then
          if x7_3 = 0 then
            if x7_2 = 0 then
              2
            else
              1
          else
            0
        else
          (-6)
    else
      if ((((r 0) ((50 + x2)).toNatClampNeg) >>> ((nI i7) &&& 31)) &&& 1) = 1 then
        if x7_2 = 0 then
          mL_safety_L54 r x2 x7_2 x7_3 i7 (mL_safety_K54 r x2 x7_2 x7_3 i7 (mL_safety_L7 r x2 n7)) 13 0 x7_3 0
        else
          if ((r 0) ((12 + (nI i7))).toNatClampNeg) = 0 then
            mL_safety_L54 r x2 x7_2 x7_3 i7 (mL_safety_K54 r x2 x7_2 x7_3 i7 (mL_safety_L7 r x2 n7)) 13 0 x7_3 0
          else
            mL_safety_L54 r x2 x7_2 x7_3 i7 (mL_safety_K54 r x2 x7_2 x7_3 i7 (mL_safety_L7 r x2 n7)) 13 1 x7_3 0
      else
        mL_safety_L7 r x2 n7 x7_2 x7_3 (i7 + 1) : Int32) := rfl
def mL_safety (r : kG) (x2 : Int32) : Int32 :=
  mL_safety_L7 r x2 13 1 0 0
theorem mL_safety_s {r : kG} {x2 : Int32} : mL_safety r x2 = (
  mL_safety_L7 r x2 13 1 0 0 : Int32) := rfl
set_option maxHeartbeats 400000 in
set_option maxRecDepth 100000 in
theorem c_L_safety (l : Launch) (E : kE) (a : Nat → Nat) (r : kG) (x2 : Int32) (hn : nOK (r 0 49)) (ht : tOK x2) (R : Int32) (hE : R = mL_safety r x2) : Met l yL_safety wsL_safety ({ frames := 2, cells := 0, slots := 0, locals := 45 }) (kPre E [.ref (a 0), .int x2] (wRx E a (r 0))) (kRi R) 0 0 (fun _ => False) := by
  refine Met.ofW (cc := cL_safety) (maxL := 6) (ret := (some .int)) (by decide) rfl ?_
  intro p e s m args below meth c s₁ B hml hv
  obtain ⟨rfl, hK, hP⟩ := hv
  have hx := B.exec
  have hb := B.bytes
  have hr := B.returns
  have hts := atoms_spec (ws := wsL_safety) B.pre
  have hown : s.vm.findClass RL = some m.cls := findClass_of_methodNamed B.named
  have hlocks := B.notSynchronized
  have hP : va_P E.1 vwCl (wRx E a (r 0)) s.heap := hP
  have hl := lv_entry ([.ref (a 0), .int x2]) (n := 6) (Nat.le_of_ble_eq_true rfl)
  rw [lg_entry_eq]
  generalize (lg_sl ([.ref (a 0), .int x2]) ++ List.replicate (6 - (lg_sl ([.ref (a 0), .int x2])).length) Slot.unset).toArray = ls at hl ⊢
  have hl : lv_has ls 6 [(0, .ref (a 0)), (1, .int x2)] := hl
  replace hE := hE.trans mL_safety_s
  refine lv_iconst (v := 1) hx hb dL_safety_0 (by decide) ?_
  refine lv_istore_n (lv' := [(2, .int 1), (0, .ref (a 0)), (1, .int x2)]) hx hb dL_safety_1 rfl hl (by decide) rfl (fun ls hl => ?_)
  refine lv_iconst (v := 0) hx hb dL_safety_2 (by decide) ?_
  refine lv_istore_n (lv' := [(3, .int 0), (2, .int 1), (0, .ref (a 0)), (1, .int x2)]) hx hb dL_safety_3 rfl hl (by decide) rfl (fun ls hl => ?_)
  refine lv_iconst (v := 0) hx hb dL_safety_4 (by decide) ?_
  refine lv_istore (lv' := [(4, .int 0), (3, .int 0), (2, .int 1), (0, .ref (a 0)), (1, .int x2)]) hx hb dL_safety_5 hl (by decide) rfl (fun ls hl => ?_)
  have lp7 : ∀ (n7 : Nat) (x7_2 : Int32) (x7_3 : Int32) (i7 : Nat), (12 < i7 + n7) → (i7 ≤ 12) → ∀ ls : Array Slot, lv_has ls 6 [(4, .int (nI i7)), (3, .int x7_3), (2, .int x7_2), (0, .ref (a 0)), (1, .int x2)] → R = mL_safety_L7 r x2 n7 x7_2 x7_3 i7 → W p l e ({ frames := 2, cells := 0, slots := 0, locals := 45 }) s m ([.ref (a 0), .int x2] : List Value).toArray below meth c s.heap [] 0 0 (MQ below (kRi R) ([.ref (a 0), .int x2] : List Value).toArray s 0 0 (fun _ => False)) (F0 m 7 ls []) := by
    clear hE
    intro n7
    induction n7 with
    | zero =>
      intro x7_2 x7_3 i7 hm7 hi7 ls hl hE
      exact absurd hm7 (by omega)
    | succ n7 ih7 =>
      intro x7_2 x7_3 i7 hm7 hi7 ls hl hE
      replace hE := hE.trans mL_safety_L7_s
      refine lv_iload hx hb dL_safety_7 (lv_at hl 0 rfl) ?_
      refine lv_aload_n hx hb dL_safety_9 rfl (lv_at hl 3 rfl) ?_
      refine lv_bipush (v := 49) hx hb dL_safety_10 (by decide) ?_
      refine va_iald (D := E.1) hx hb hK.1 hP 0 0 rfl rfl (vp_in_nI (n := 49) (by decide) (by decide)) dL_safety_12 ?_
      refine W.eq (g2 := F0 m 13 ls [.int ((r 0) 49), .int (nI i7)]) rfl ?_
      refine lv_icmp_ge (tgt := 127) hx hb dL_safety_13 (by decide) (fun c_1 => ?_) (fun c_1 => ?_)
      · replace hE := hE.trans (if_pos c_1)
        refine lv_aload_n hx hb dL_safety_127 rfl (lv_at hl 3 rfl) ?_
        refine lv_bipush (v := 12) hx hb dL_safety_128 (by decide) ?_
        refine lv_iload_n hx hb dL_safety_130 rfl (lv_at hl 4 rfl) ?_
        refine lv_iadd hx hb dL_safety_131 ?_
        refine va_iald (D := E.1) hx hb hK.1 hP 0 0 rfl rfl (rIn 12 (by decide) (by first | assumption | exact tOK.nI (by omega))) dL_safety_132 ?_
        refine lv_if_lt (tgt := 145) hx hb dL_safety_133 (by decide) (fun c_2 => ?_) (fun c_2 => ?_)
        · replace hE := hE.trans (if_pos c_2)
          refine lv_bipush (v := (-6)) hx hb dL_safety_145 (by decide) ?_
          refine lv_goto (tgt := 167) hx hb dL_safety_147 (by decide) ?_
          subst R
          exact W.iret (v := (-6)) hx hb hr (fun t ht hW => ⟨rfl, ht⟩) (fun _ h => by cases h) dL_safety_167
        · replace hE := hE.trans (if_neg c_2)
          refine lv_aload_n hx hb dL_safety_136 rfl (lv_at hl 3 rfl) ?_
          refine lv_bipush (v := 36) hx hb dL_safety_137 (by decide) ?_
          refine lv_iload_n hx hb dL_safety_139 rfl (lv_at hl 4 rfl) ?_
          refine lv_iadd hx hb dL_safety_140 ?_
          refine va_iald (D := E.1) hx hb hK.1 hP 0 0 rfl rfl (rIn 36 (by decide) (by first | assumption | exact tOK.nI (by omega))) dL_safety_141 ?_
          refine lv_if_eq (tgt := 150) hx hb dL_safety_142 (by decide) (fun c_3 => ?_) (fun c_3 => ?_)
          · replace hE := hE.trans (if_pos c_3)
            refine lv_iload_n hx hb dL_safety_150 rfl (lv_at hl 1 rfl) ?_
            refine lv_if_eq (tgt := 158) hx hb dL_safety_151 (by decide) (fun c_4 => ?_) (fun c_4 => ?_)
            · replace hE := hE.trans (if_pos c_4)
              refine lv_iload_n hx hb dL_safety_158 rfl (lv_at hl 2 rfl) ?_
              refine lv_if_eq (tgt := 166) hx hb dL_safety_159 (by decide) (fun c_5 => ?_) (fun c_5 => ?_)
              · replace hE := hE.trans (if_pos c_5)
                refine lv_iconst (v := 2) hx hb dL_safety_166 (by decide) ?_
                subst R
                exact W.iret (v := 2) hx hb hr (fun t ht hW => ⟨rfl, ht⟩) (fun _ h => by cases h) dL_safety_167
              · replace hE := hE.trans (if_neg c_5)
                refine lv_iconst (v := 1) hx hb dL_safety_162 (by decide) ?_
                refine lv_goto (tgt := 167) hx hb dL_safety_163 (by decide) ?_
                subst R
                exact W.iret (v := 1) hx hb hr (fun t ht hW => ⟨rfl, ht⟩) (fun _ h => by cases h) dL_safety_167
            · replace hE := hE.trans (if_neg c_4)
              refine lv_iconst (v := 0) hx hb dL_safety_154 (by decide) ?_
              refine lv_goto (tgt := 167) hx hb dL_safety_155 (by decide) ?_
              subst R
              exact W.iret (v := 0) hx hb hr (fun t ht hW => ⟨rfl, ht⟩) (fun _ h => by cases h) dL_safety_167
          · replace hE := hE.trans (if_neg c_3)
            refine lv_bipush (v := (-6)) hx hb dL_safety_145 (by decide) ?_
            refine lv_goto (tgt := 167) hx hb dL_safety_147 (by decide) ?_
            subst R
            exact W.iret (v := (-6)) hx hb hr (fun t ht hW => ⟨rfl, ht⟩) (fun _ h => by cases h) dL_safety_167
      · replace hE := hE.trans (if_neg c_1)
        have hbc_1 : i7 < 12 := nOK.lt (by assumption) (by omega) c_1
        refine lv_aload_n hx hb dL_safety_16 rfl (lv_at hl 3 rfl) ?_
        refine lv_bipush (v := 50) hx hb dL_safety_17 (by decide) ?_
        refine lv_iload_n hx hb dL_safety_19 rfl (lv_at hl 4 rfl) ?_
        refine lv_iadd hx hb dL_safety_20 ?_
        refine va_iald (D := E.1) hx hb hK.1 hP 0 0 rfl rfl (rIn 50 (by decide) (by first | assumption | exact tOK.nI (by omega))) dL_safety_21 ?_
        refine lv_iload hx hb dL_safety_22 (lv_at hl 0 rfl) ?_
        refine lv_ishr hx hb dL_safety_24 ?_
        refine lv_iconst (v := 1) hx hb dL_safety_25 (by decide) ?_
        refine lv_iand hx hb dL_safety_26 ?_
        refine lv_iconst (v := 1) hx hb dL_safety_27 (by decide) ?_
        refine lv_icmp_ne (tgt := 121) hx hb dL_safety_28 (by decide) (fun c_6 => ?_) (fun c_6 => ?_)
        · replace hE := hE.trans (if_neg c_6)
          refine lv_iinc (v := (nI (i7 + 1))) (lv' := [(4, .int (nI (i7 + 1))), (3, .int x7_3), (2, .int x7_2), (0, .ref (a 0)), (1, .int x2)]) hx hb dL_safety_121 hl (k := 0) rfl (nI_1 i7) (by decide) rfl (fun ls hl => ?_)
          refine lv_goto (tgt := 7) hx hb dL_safety_124 (by decide) ?_
          exact ih7 x7_2 x7_3 (i7 + 1) (by omega) (by omega) ls (lv_sub hl [0, 1, 2, 3, 4] rfl) hE
        · replace hE := hE.trans (if_pos c_6)
          refine lv_iload_n hx hb dL_safety_31 rfl (lv_at hl 2 rfl) ?_
          refine lv_if_eq (tgt := 49) hx hb dL_safety_32 (by decide) (fun c_7 => ?_) (fun c_7 => ?_)
          · replace hE := hE.trans (if_pos c_7)
            refine lv_iconst (v := 0) hx hb dL_safety_49 (by decide) ?_
            refine lv_istore_n (lv' := [(2, .int 0), (4, .int (nI i7)), (3, .int x7_3), (0, .ref (a 0)), (1, .int x2)]) hx hb dL_safety_50 rfl hl (by decide) rfl (fun ls hl => ?_)
            refine lv_iconst (v := 0) hx hb dL_safety_51 (by decide) ?_
            refine lv_istore (lv' := [(5, .int 0), (2, .int 0), (4, .int (nI i7)), (3, .int x7_3), (0, .ref (a 0)), (1, .int x2)]) hx hb dL_safety_52 hl (by decide) rfl (fun ls hl => ?_)
            have lp54 : ∀ (n54 : Nat) (x54_2 : Int32) (x54_3 : Int32) (i54 : Nat), (12 < i54 + n54) → (i54 ≤ 12) → ∀ ls : Array Slot, lv_has ls 6 [(5, .int (nI i54)), (2, .int x54_2), (4, .int (nI i7)), (3, .int x54_3), (0, .ref (a 0)), (1, .int x2)] → R = mL_safety_L54 r x2 x7_2 x7_3 i7 (mL_safety_K54 r x2 x7_2 x7_3 i7 (mL_safety_L7 r x2 n7)) n54 x54_2 x54_3 i54 → W p l e ({ frames := 2, cells := 0, slots := 0, locals := 45 }) s m ([.ref (a 0), .int x2] : List Value).toArray below meth c s.heap [] 0 0 (MQ below (kRi R) ([.ref (a 0), .int x2] : List Value).toArray s 0 0 (fun _ => False)) (F0 m 54 ls []) := by
              clear hE
              intro n54
              induction n54 with
              | zero =>
                intro x54_2 x54_3 i54 hm54 hi54 ls hl hE
                exact absurd hm54 (by omega)
              | succ n54 ih54 =>
                intro x54_2 x54_3 i54 hm54 hi54 ls hl hE
                replace hE := hE.trans mL_safety_L54_s
                refine lv_iload hx hb dL_safety_54 (lv_at hl 0 rfl) ?_
                refine lv_aload_n hx hb dL_safety_56 rfl (lv_at hl 4 rfl) ?_
                refine lv_bipush (v := 49) hx hb dL_safety_57 (by decide) ?_
                refine va_iald (D := E.1) hx hb hK.1 hP 0 0 rfl rfl (vp_in_nI (n := 49) (by decide) (by decide)) dL_safety_59 ?_
                refine W.eq (g2 := F0 m 60 ls [.int ((r 0) 49), .int (nI i54)]) rfl ?_
                refine lv_icmp_ge (tgt := 121) hx hb dL_safety_60 (by decide) (fun c_8 => ?_) (fun c_8 => ?_)
                · replace hE := hE.trans (if_pos c_8)
                  replace hE := hE.trans mL_safety_K54_s
                  refine lv_iinc (v := (nI (i7 + 1))) (lv' := [(4, .int (nI (i7 + 1))), (5, .int (nI i54)), (2, .int x54_2), (3, .int x54_3), (0, .ref (a 0)), (1, .int x2)]) hx hb dL_safety_121 hl (k := 2) rfl (nI_1 i7) (by decide) rfl (fun ls hl => ?_)
                  refine lv_goto (tgt := 7) hx hb dL_safety_124 (by decide) ?_
                  exact ih7 x54_2 x54_3 (i7 + 1) (by omega) (by omega) ls (lv_sub hl [0, 3, 2, 4, 5] rfl) hE
                · replace hE := hE.trans (if_neg c_8)
                  have hbc_8 : i54 < 12 := nOK.lt (by assumption) (by omega) c_8
                  refine lv_iload_n hx hb dL_safety_63 rfl (lv_at hl 3 rfl) ?_
                  refine lv_if_ne (tgt := 109) hx hb dL_safety_64 (by decide) (fun c_9 => ?_) (fun c_9 => ?_)
                  · replace hE := hE.trans (if_neg c_9)
                    refine lv_iconst (v := 1) hx hb dL_safety_109 (by decide) ?_
                    refine lv_goto (tgt := 114) hx hb dL_safety_110 (by decide) ?_
                    refine lv_istore_n (lv' := [(3, .int 1), (5, .int (nI i54)), (2, .int x54_2), (4, .int (nI i7)), (0, .ref (a 0)), (1, .int x2)]) hx hb dL_safety_114 rfl hl (by decide) rfl (fun ls hl => ?_)
                    refine lv_iinc (v := (nI (i54 + 1))) (lv' := [(5, .int (nI (i54 + 1))), (3, .int 1), (2, .int x54_2), (4, .int (nI i7)), (0, .ref (a 0)), (1, .int x2)]) hx hb dL_safety_115 hl (k := 1) rfl (nI_1 i54) (by decide) rfl (fun ls hl => ?_)
                    refine lv_goto (tgt := 54) hx hb dL_safety_118 (by decide) ?_
                    exact ih54 x54_2 1 (i54 + 1) (by omega) (by omega) ls (lv_sub hl [0, 2, 3, 1, 4, 5] rfl) hE
                  · replace hE := hE.trans (if_pos c_9)
                    refine lv_aload_n hx hb dL_safety_67 rfl (lv_at hl 4 rfl) ?_
                    refine lv_iload hx hb dL_safety_68 (lv_at hl 2 rfl) ?_
                    refine kCallRi (va_runS (As := [.ref (a 0), .int (nI i7)]) (rest := []) ⟨hx, hb, hml, hown, hts⟩ (c_L_isCommitted l E a r (nI i7) (by first | assumption | exact tOK.nI (by omega)) _ rfl) (va_cwS 2 hts gL_safety_L_isCommitted rfl rfl rfl (by decide +kernel) ⟨Nat.le_of_ble_eq_true rfl, Nat.le_of_ble_eq_true rfl⟩) (kPreS hK hP) rfl rfl hl.1 rfl (lv_room (Nat.le_of_ble_eq_true rfl)) dL_safety_70 ⟨Nat.zero_le _, Nat.zero_le _⟩) ?_
                    refine lv_if_eq (tgt := 113) hx hb dL_safety_73 (by decide) (fun c_10 => ?_) (fun c_10 => ?_)
                    · replace hE := hE.trans (if_pos c_10)
                      refine lv_iconst (v := 0) hx hb dL_safety_113 (by decide) ?_
                      refine lv_istore_n (lv' := [(3, .int 0), (5, .int (nI i54)), (2, .int x54_2), (4, .int (nI i7)), (0, .ref (a 0)), (1, .int x2)]) hx hb dL_safety_114 rfl hl (by decide) rfl (fun ls hl => ?_)
                      refine lv_iinc (v := (nI (i54 + 1))) (lv' := [(5, .int (nI (i54 + 1))), (3, .int 0), (2, .int x54_2), (4, .int (nI i7)), (0, .ref (a 0)), (1, .int x2)]) hx hb dL_safety_115 hl (k := 1) rfl (nI_1 i54) (by decide) rfl (fun ls hl => ?_)
                      refine lv_goto (tgt := 54) hx hb dL_safety_118 (by decide) ?_
                      exact ih54 x54_2 0 (i54 + 1) (by omega) (by omega) ls (lv_sub hl [0, 2, 3, 1, 4, 5] rfl) hE
                    · replace hE := hE.trans (if_neg c_10)
                      refine lv_aload_n hx hb dL_safety_76 rfl (lv_at hl 4 rfl) ?_
                      refine lv_iload hx hb dL_safety_77 (lv_at hl 2 rfl) ?_
                      refine lv_iload hx hb dL_safety_79 (lv_at hl 0 rfl) ?_
                      refine kCallRi (va_runS (As := [.ref (a 0), .int (nI i7), .int (nI i54)]) (rest := []) ⟨hx, hb, hml, hown, hts⟩ (c_L_isEdge l E a r (nI i7) (nI i54) (by first | assumption | exact tOK.nI (by omega)) (by first | assumption | exact tOK.nI (by omega)) _ rfl) (va_cwS 3 hts gL_safety_L_isEdge rfl rfl rfl (by decide +kernel) ⟨Nat.le_of_ble_eq_true rfl, Nat.le_of_ble_eq_true rfl⟩) (kPreS hK hP) rfl rfl hl.1 rfl (lv_room (Nat.le_of_ble_eq_true rfl)) dL_safety_81 ⟨Nat.zero_le _, Nat.zero_le _⟩) ?_
                      refine lv_if_eq (tgt := 113) hx hb dL_safety_84 (by decide) (fun c_11 => ?_) (fun c_11 => ?_)
                      · replace hE := hE.trans (if_pos c_11)
                        refine lv_iconst (v := 0) hx hb dL_safety_113 (by decide) ?_
                        refine lv_istore_n (lv' := [(3, .int 0), (5, .int (nI i54)), (2, .int x54_2), (4, .int (nI i7)), (0, .ref (a 0)), (1, .int x2)]) hx hb dL_safety_114 rfl hl (by decide) rfl (fun ls hl => ?_)
                        refine lv_iinc (v := (nI (i54 + 1))) (lv' := [(5, .int (nI (i54 + 1))), (3, .int 0), (2, .int x54_2), (4, .int (nI i7)), (0, .ref (a 0)), (1, .int x2)]) hx hb dL_safety_115 hl (k := 1) rfl (nI_1 i54) (by decide) rfl (fun ls hl => ?_)
                        refine lv_goto (tgt := 54) hx hb dL_safety_118 (by decide) ?_
                        exact ih54 x54_2 0 (i54 + 1) (by omega) (by omega) ls (lv_sub hl [0, 2, 3, 1, 4, 5] rfl) hE
                      · replace hE := hE.trans (if_neg c_11)
                        refine lv_aload_n hx hb dL_safety_87 rfl (lv_at hl 4 rfl) ?_
                        refine lv_iload hx hb dL_safety_88 (lv_at hl 0 rfl) ?_
                        refine kCallRi (va_runS (As := [.ref (a 0), .int (nI i54)]) (rest := []) ⟨hx, hb, hml, hown, hts⟩ (c_L_isCommitted l E a r (nI i54) (by first | assumption | exact tOK.nI (by omega)) _ rfl) (va_cwS 2 hts gL_safety_L_isCommitted rfl rfl rfl (by decide +kernel) ⟨Nat.le_of_ble_eq_true rfl, Nat.le_of_ble_eq_true rfl⟩) (kPreS hK hP) rfl rfl hl.1 rfl (lv_room (Nat.le_of_ble_eq_true rfl)) dL_safety_90 ⟨Nat.zero_le _, Nat.zero_le _⟩) ?_
                        refine lv_if_eq (tgt := 113) hx hb dL_safety_93 (by decide) (fun c_12 => ?_) (fun c_12 => ?_)
                        · replace hE := hE.trans (if_pos c_12)
                          refine lv_iconst (v := 0) hx hb dL_safety_113 (by decide) ?_
                          refine lv_istore_n (lv' := [(3, .int 0), (5, .int (nI i54)), (2, .int x54_2), (4, .int (nI i7)), (0, .ref (a 0)), (1, .int x2)]) hx hb dL_safety_114 rfl hl (by decide) rfl (fun ls hl => ?_)
                          refine lv_iinc (v := (nI (i54 + 1))) (lv' := [(5, .int (nI (i54 + 1))), (3, .int 0), (2, .int x54_2), (4, .int (nI i7)), (0, .ref (a 0)), (1, .int x2)]) hx hb dL_safety_115 hl (k := 1) rfl (nI_1 i54) (by decide) rfl (fun ls hl => ?_)
                          refine lv_goto (tgt := 54) hx hb dL_safety_118 (by decide) ?_
                          exact ih54 x54_2 0 (i54 + 1) (by omega) (by omega) ls (lv_sub hl [0, 2, 3, 1, 4, 5] rfl) hE
                        · replace hE := hE.trans (if_neg c_12)
                          refine lv_aload_n hx hb dL_safety_96 rfl (lv_at hl 4 rfl) ?_
                          refine lv_bipush (v := 12) hx hb dL_safety_97 (by decide) ?_
                          refine lv_iload hx hb dL_safety_99 (lv_at hl 0 rfl) ?_
                          refine lv_iadd hx hb dL_safety_101 ?_
                          refine va_iald (D := E.1) hx hb hK.1 hP 0 0 rfl rfl (rIn 12 (by decide) (by first | assumption | exact tOK.nI (by omega))) dL_safety_102 ?_
                          refine lv_aload_n hx hb dL_safety_103 rfl (lv_at hl 4 rfl) ?_
                          refine lv_iload_n hx hb dL_safety_104 rfl (lv_at hl 5 rfl) ?_
                          refine va_iald (D := E.1) hx hb hK.1 hP 0 0 rfl rfl (rIn0 (by first | assumption | exact tOK.nI (by omega))) dL_safety_105 ?_
                          refine lv_icmp_ge (tgt := 113) hx hb dL_safety_106 (by decide) (fun c_13 => ?_) (fun c_13 => ?_)
                          · replace hE := hE.trans (if_pos c_13)
                            refine lv_iconst (v := 0) hx hb dL_safety_113 (by decide) ?_
                            refine lv_istore_n (lv' := [(3, .int 0), (5, .int (nI i54)), (2, .int x54_2), (4, .int (nI i7)), (0, .ref (a 0)), (1, .int x2)]) hx hb dL_safety_114 rfl hl (by decide) rfl (fun ls hl => ?_)
                            refine lv_iinc (v := (nI (i54 + 1))) (lv' := [(5, .int (nI (i54 + 1))), (3, .int 0), (2, .int x54_2), (4, .int (nI i7)), (0, .ref (a 0)), (1, .int x2)]) hx hb dL_safety_115 hl (k := 1) rfl (nI_1 i54) (by decide) rfl (fun ls hl => ?_)
                            refine lv_goto (tgt := 54) hx hb dL_safety_118 (by decide) ?_
                            exact ih54 x54_2 0 (i54 + 1) (by omega) (by omega) ls (lv_sub hl [0, 2, 3, 1, 4, 5] rfl) hE
                          · replace hE := hE.trans (if_neg c_13)
                            refine lv_iconst (v := 1) hx hb dL_safety_109 (by decide) ?_
                            refine lv_goto (tgt := 114) hx hb dL_safety_110 (by decide) ?_
                            refine lv_istore_n (lv' := [(3, .int 1), (5, .int (nI i54)), (2, .int x54_2), (4, .int (nI i7)), (0, .ref (a 0)), (1, .int x2)]) hx hb dL_safety_114 rfl hl (by decide) rfl (fun ls hl => ?_)
                            refine lv_iinc (v := (nI (i54 + 1))) (lv' := [(5, .int (nI (i54 + 1))), (3, .int 1), (2, .int x54_2), (4, .int (nI i7)), (0, .ref (a 0)), (1, .int x2)]) hx hb dL_safety_115 hl (k := 1) rfl (nI_1 i54) (by decide) rfl (fun ls hl => ?_)
                            refine lv_goto (tgt := 54) hx hb dL_safety_118 (by decide) ?_
                            exact ih54 x54_2 1 (i54 + 1) (by omega) (by omega) ls (lv_sub hl [0, 2, 3, 1, 4, 5] rfl) hE
            exact lp54 13 0 x7_3 0 (by omega) (by omega) ls (lv_sub hl [0, 1, 2, 3, 4, 5] rfl) hE
          · replace hE := hE.trans (if_neg c_7)
            refine lv_aload_n hx hb dL_safety_35 rfl (lv_at hl 3 rfl) ?_
            refine lv_bipush (v := 12) hx hb dL_safety_36 (by decide) ?_
            refine lv_iload hx hb dL_safety_38 (lv_at hl 0 rfl) ?_
            refine lv_iadd hx hb dL_safety_40 ?_
            refine va_iald (D := E.1) hx hb hK.1 hP 0 0 rfl rfl (rIn 12 (by decide) (by first | assumption | exact tOK.nI (by omega))) dL_safety_41 ?_
            refine lv_if_eq (tgt := 49) hx hb dL_safety_42 (by decide) (fun c_14 => ?_) (fun c_14 => ?_)
            · replace hE := hE.trans (if_pos c_14)
              refine lv_iconst (v := 0) hx hb dL_safety_49 (by decide) ?_
              refine lv_istore_n (lv' := [(2, .int 0), (4, .int (nI i7)), (3, .int x7_3), (0, .ref (a 0)), (1, .int x2)]) hx hb dL_safety_50 rfl hl (by decide) rfl (fun ls hl => ?_)
              refine lv_iconst (v := 0) hx hb dL_safety_51 (by decide) ?_
              refine lv_istore (lv' := [(5, .int 0), (2, .int 0), (4, .int (nI i7)), (3, .int x7_3), (0, .ref (a 0)), (1, .int x2)]) hx hb dL_safety_52 hl (by decide) rfl (fun ls hl => ?_)
              have lp54 : ∀ (n54 : Nat) (x54_2 : Int32) (x54_3 : Int32) (i54 : Nat), (12 < i54 + n54) → (i54 ≤ 12) → ∀ ls : Array Slot, lv_has ls 6 [(5, .int (nI i54)), (2, .int x54_2), (4, .int (nI i7)), (3, .int x54_3), (0, .ref (a 0)), (1, .int x2)] → R = mL_safety_L54 r x2 x7_2 x7_3 i7 (mL_safety_K54 r x2 x7_2 x7_3 i7 (mL_safety_L7 r x2 n7)) n54 x54_2 x54_3 i54 → W p l e ({ frames := 2, cells := 0, slots := 0, locals := 45 }) s m ([.ref (a 0), .int x2] : List Value).toArray below meth c s.heap [] 0 0 (MQ below (kRi R) ([.ref (a 0), .int x2] : List Value).toArray s 0 0 (fun _ => False)) (F0 m 54 ls []) := by
                clear hE
                intro n54
                induction n54 with
                | zero =>
                  intro x54_2 x54_3 i54 hm54 hi54 ls hl hE
                  exact absurd hm54 (by omega)
                | succ n54 ih54 =>
                  intro x54_2 x54_3 i54 hm54 hi54 ls hl hE
                  replace hE := hE.trans mL_safety_L54_s
                  refine lv_iload hx hb dL_safety_54 (lv_at hl 0 rfl) ?_
                  refine lv_aload_n hx hb dL_safety_56 rfl (lv_at hl 4 rfl) ?_
                  refine lv_bipush (v := 49) hx hb dL_safety_57 (by decide) ?_
                  refine va_iald (D := E.1) hx hb hK.1 hP 0 0 rfl rfl (vp_in_nI (n := 49) (by decide) (by decide)) dL_safety_59 ?_
                  refine W.eq (g2 := F0 m 60 ls [.int ((r 0) 49), .int (nI i54)]) rfl ?_
                  refine lv_icmp_ge (tgt := 121) hx hb dL_safety_60 (by decide) (fun c_8 => ?_) (fun c_8 => ?_)
                  · replace hE := hE.trans (if_pos c_8)
                    replace hE := hE.trans mL_safety_K54_s
                    refine lv_iinc (v := (nI (i7 + 1))) (lv' := [(4, .int (nI (i7 + 1))), (5, .int (nI i54)), (2, .int x54_2), (3, .int x54_3), (0, .ref (a 0)), (1, .int x2)]) hx hb dL_safety_121 hl (k := 2) rfl (nI_1 i7) (by decide) rfl (fun ls hl => ?_)
                    refine lv_goto (tgt := 7) hx hb dL_safety_124 (by decide) ?_
                    exact ih7 x54_2 x54_3 (i7 + 1) (by omega) (by omega) ls (lv_sub hl [0, 3, 2, 4, 5] rfl) hE
                  · replace hE := hE.trans (if_neg c_8)
                    have hbc_8 : i54 < 12 := nOK.lt (by assumption) (by omega) c_8
                    refine lv_iload_n hx hb dL_safety_63 rfl (lv_at hl 3 rfl) ?_
                    refine lv_if_ne (tgt := 109) hx hb dL_safety_64 (by decide) (fun c_9 => ?_) (fun c_9 => ?_)
                    · replace hE := hE.trans (if_neg c_9)
                      refine lv_iconst (v := 1) hx hb dL_safety_109 (by decide) ?_
                      refine lv_goto (tgt := 114) hx hb dL_safety_110 (by decide) ?_
                      refine lv_istore_n (lv' := [(3, .int 1), (5, .int (nI i54)), (2, .int x54_2), (4, .int (nI i7)), (0, .ref (a 0)), (1, .int x2)]) hx hb dL_safety_114 rfl hl (by decide) rfl (fun ls hl => ?_)
                      refine lv_iinc (v := (nI (i54 + 1))) (lv' := [(5, .int (nI (i54 + 1))), (3, .int 1), (2, .int x54_2), (4, .int (nI i7)), (0, .ref (a 0)), (1, .int x2)]) hx hb dL_safety_115 hl (k := 1) rfl (nI_1 i54) (by decide) rfl (fun ls hl => ?_)
                      refine lv_goto (tgt := 54) hx hb dL_safety_118 (by decide) ?_
                      exact ih54 x54_2 1 (i54 + 1) (by omega) (by omega) ls (lv_sub hl [0, 2, 3, 1, 4, 5] rfl) hE
                    · replace hE := hE.trans (if_pos c_9)
                      refine lv_aload_n hx hb dL_safety_67 rfl (lv_at hl 4 rfl) ?_
                      refine lv_iload hx hb dL_safety_68 (lv_at hl 2 rfl) ?_
                      refine kCallRi (va_runS (As := [.ref (a 0), .int (nI i7)]) (rest := []) ⟨hx, hb, hml, hown, hts⟩ (c_L_isCommitted l E a r (nI i7) (by first | assumption | exact tOK.nI (by omega)) _ rfl) (va_cwS 2 hts gL_safety_L_isCommitted rfl rfl rfl (by decide +kernel) ⟨Nat.le_of_ble_eq_true rfl, Nat.le_of_ble_eq_true rfl⟩) (kPreS hK hP) rfl rfl hl.1 rfl (lv_room (Nat.le_of_ble_eq_true rfl)) dL_safety_70 ⟨Nat.zero_le _, Nat.zero_le _⟩) ?_
                      refine lv_if_eq (tgt := 113) hx hb dL_safety_73 (by decide) (fun c_10 => ?_) (fun c_10 => ?_)
                      · replace hE := hE.trans (if_pos c_10)
                        refine lv_iconst (v := 0) hx hb dL_safety_113 (by decide) ?_
                        refine lv_istore_n (lv' := [(3, .int 0), (5, .int (nI i54)), (2, .int x54_2), (4, .int (nI i7)), (0, .ref (a 0)), (1, .int x2)]) hx hb dL_safety_114 rfl hl (by decide) rfl (fun ls hl => ?_)
                        refine lv_iinc (v := (nI (i54 + 1))) (lv' := [(5, .int (nI (i54 + 1))), (3, .int 0), (2, .int x54_2), (4, .int (nI i7)), (0, .ref (a 0)), (1, .int x2)]) hx hb dL_safety_115 hl (k := 1) rfl (nI_1 i54) (by decide) rfl (fun ls hl => ?_)
                        refine lv_goto (tgt := 54) hx hb dL_safety_118 (by decide) ?_
                        exact ih54 x54_2 0 (i54 + 1) (by omega) (by omega) ls (lv_sub hl [0, 2, 3, 1, 4, 5] rfl) hE
                      · replace hE := hE.trans (if_neg c_10)
                        refine lv_aload_n hx hb dL_safety_76 rfl (lv_at hl 4 rfl) ?_
                        refine lv_iload hx hb dL_safety_77 (lv_at hl 2 rfl) ?_
                        refine lv_iload hx hb dL_safety_79 (lv_at hl 0 rfl) ?_
                        refine kCallRi (va_runS (As := [.ref (a 0), .int (nI i7), .int (nI i54)]) (rest := []) ⟨hx, hb, hml, hown, hts⟩ (c_L_isEdge l E a r (nI i7) (nI i54) (by first | assumption | exact tOK.nI (by omega)) (by first | assumption | exact tOK.nI (by omega)) _ rfl) (va_cwS 3 hts gL_safety_L_isEdge rfl rfl rfl (by decide +kernel) ⟨Nat.le_of_ble_eq_true rfl, Nat.le_of_ble_eq_true rfl⟩) (kPreS hK hP) rfl rfl hl.1 rfl (lv_room (Nat.le_of_ble_eq_true rfl)) dL_safety_81 ⟨Nat.zero_le _, Nat.zero_le _⟩) ?_
                        refine lv_if_eq (tgt := 113) hx hb dL_safety_84 (by decide) (fun c_11 => ?_) (fun c_11 => ?_)
                        · replace hE := hE.trans (if_pos c_11)
                          refine lv_iconst (v := 0) hx hb dL_safety_113 (by decide) ?_
                          refine lv_istore_n (lv' := [(3, .int 0), (5, .int (nI i54)), (2, .int x54_2), (4, .int (nI i7)), (0, .ref (a 0)), (1, .int x2)]) hx hb dL_safety_114 rfl hl (by decide) rfl (fun ls hl => ?_)
                          refine lv_iinc (v := (nI (i54 + 1))) (lv' := [(5, .int (nI (i54 + 1))), (3, .int 0), (2, .int x54_2), (4, .int (nI i7)), (0, .ref (a 0)), (1, .int x2)]) hx hb dL_safety_115 hl (k := 1) rfl (nI_1 i54) (by decide) rfl (fun ls hl => ?_)
                          refine lv_goto (tgt := 54) hx hb dL_safety_118 (by decide) ?_
                          exact ih54 x54_2 0 (i54 + 1) (by omega) (by omega) ls (lv_sub hl [0, 2, 3, 1, 4, 5] rfl) hE
                        · replace hE := hE.trans (if_neg c_11)
                          refine lv_aload_n hx hb dL_safety_87 rfl (lv_at hl 4 rfl) ?_
                          refine lv_iload hx hb dL_safety_88 (lv_at hl 0 rfl) ?_
                          refine kCallRi (va_runS (As := [.ref (a 0), .int (nI i54)]) (rest := []) ⟨hx, hb, hml, hown, hts⟩ (c_L_isCommitted l E a r (nI i54) (by first | assumption | exact tOK.nI (by omega)) _ rfl) (va_cwS 2 hts gL_safety_L_isCommitted rfl rfl rfl (by decide +kernel) ⟨Nat.le_of_ble_eq_true rfl, Nat.le_of_ble_eq_true rfl⟩) (kPreS hK hP) rfl rfl hl.1 rfl (lv_room (Nat.le_of_ble_eq_true rfl)) dL_safety_90 ⟨Nat.zero_le _, Nat.zero_le _⟩) ?_
                          refine lv_if_eq (tgt := 113) hx hb dL_safety_93 (by decide) (fun c_12 => ?_) (fun c_12 => ?_)
                          · replace hE := hE.trans (if_pos c_12)
                            refine lv_iconst (v := 0) hx hb dL_safety_113 (by decide) ?_
                            refine lv_istore_n (lv' := [(3, .int 0), (5, .int (nI i54)), (2, .int x54_2), (4, .int (nI i7)), (0, .ref (a 0)), (1, .int x2)]) hx hb dL_safety_114 rfl hl (by decide) rfl (fun ls hl => ?_)
                            refine lv_iinc (v := (nI (i54 + 1))) (lv' := [(5, .int (nI (i54 + 1))), (3, .int 0), (2, .int x54_2), (4, .int (nI i7)), (0, .ref (a 0)), (1, .int x2)]) hx hb dL_safety_115 hl (k := 1) rfl (nI_1 i54) (by decide) rfl (fun ls hl => ?_)
                            refine lv_goto (tgt := 54) hx hb dL_safety_118 (by decide) ?_
                            exact ih54 x54_2 0 (i54 + 1) (by omega) (by omega) ls (lv_sub hl [0, 2, 3, 1, 4, 5] rfl) hE
                          · replace hE := hE.trans (if_neg c_12)
                            refine lv_aload_n hx hb dL_safety_96 rfl (lv_at hl 4 rfl) ?_
                            refine lv_bipush (v := 12) hx hb dL_safety_97 (by decide) ?_
                            refine lv_iload hx hb dL_safety_99 (lv_at hl 0 rfl) ?_
                            refine lv_iadd hx hb dL_safety_101 ?_
                            refine va_iald (D := E.1) hx hb hK.1 hP 0 0 rfl rfl (rIn 12 (by decide) (by first | assumption | exact tOK.nI (by omega))) dL_safety_102 ?_
                            refine lv_aload_n hx hb dL_safety_103 rfl (lv_at hl 4 rfl) ?_
                            refine lv_iload_n hx hb dL_safety_104 rfl (lv_at hl 5 rfl) ?_
                            refine va_iald (D := E.1) hx hb hK.1 hP 0 0 rfl rfl (rIn0 (by first | assumption | exact tOK.nI (by omega))) dL_safety_105 ?_
                            refine lv_icmp_ge (tgt := 113) hx hb dL_safety_106 (by decide) (fun c_13 => ?_) (fun c_13 => ?_)
                            · replace hE := hE.trans (if_pos c_13)
                              refine lv_iconst (v := 0) hx hb dL_safety_113 (by decide) ?_
                              refine lv_istore_n (lv' := [(3, .int 0), (5, .int (nI i54)), (2, .int x54_2), (4, .int (nI i7)), (0, .ref (a 0)), (1, .int x2)]) hx hb dL_safety_114 rfl hl (by decide) rfl (fun ls hl => ?_)
                              refine lv_iinc (v := (nI (i54 + 1))) (lv' := [(5, .int (nI (i54 + 1))), (3, .int 0), (2, .int x54_2), (4, .int (nI i7)), (0, .ref (a 0)), (1, .int x2)]) hx hb dL_safety_115 hl (k := 1) rfl (nI_1 i54) (by decide) rfl (fun ls hl => ?_)
                              refine lv_goto (tgt := 54) hx hb dL_safety_118 (by decide) ?_
                              exact ih54 x54_2 0 (i54 + 1) (by omega) (by omega) ls (lv_sub hl [0, 2, 3, 1, 4, 5] rfl) hE
                            · replace hE := hE.trans (if_neg c_13)
                              refine lv_iconst (v := 1) hx hb dL_safety_109 (by decide) ?_
                              refine lv_goto (tgt := 114) hx hb dL_safety_110 (by decide) ?_
                              refine lv_istore_n (lv' := [(3, .int 1), (5, .int (nI i54)), (2, .int x54_2), (4, .int (nI i7)), (0, .ref (a 0)), (1, .int x2)]) hx hb dL_safety_114 rfl hl (by decide) rfl (fun ls hl => ?_)
                              refine lv_iinc (v := (nI (i54 + 1))) (lv' := [(5, .int (nI (i54 + 1))), (3, .int 1), (2, .int x54_2), (4, .int (nI i7)), (0, .ref (a 0)), (1, .int x2)]) hx hb dL_safety_115 hl (k := 1) rfl (nI_1 i54) (by decide) rfl (fun ls hl => ?_)
                              refine lv_goto (tgt := 54) hx hb dL_safety_118 (by decide) ?_
                              exact ih54 x54_2 1 (i54 + 1) (by omega) (by omega) ls (lv_sub hl [0, 2, 3, 1, 4, 5] rfl) hE
              exact lp54 13 0 x7_3 0 (by omega) (by omega) ls (lv_sub hl [0, 1, 2, 3, 4, 5] rfl) hE
            · replace hE := hE.trans (if_neg c_14)
              refine lv_iconst (v := 1) hx hb dL_safety_45 (by decide) ?_
              refine lv_goto (tgt := 50) hx hb dL_safety_46 (by decide) ?_
              refine lv_istore_n (lv' := [(2, .int 1), (4, .int (nI i7)), (3, .int x7_3), (0, .ref (a 0)), (1, .int x2)]) hx hb dL_safety_50 rfl hl (by decide) rfl (fun ls hl => ?_)
              refine lv_iconst (v := 0) hx hb dL_safety_51 (by decide) ?_
              refine lv_istore (lv' := [(5, .int 0), (2, .int 1), (4, .int (nI i7)), (3, .int x7_3), (0, .ref (a 0)), (1, .int x2)]) hx hb dL_safety_52 hl (by decide) rfl (fun ls hl => ?_)
              have lp54 : ∀ (n54 : Nat) (x54_2 : Int32) (x54_3 : Int32) (i54 : Nat), (12 < i54 + n54) → (i54 ≤ 12) → ∀ ls : Array Slot, lv_has ls 6 [(5, .int (nI i54)), (2, .int x54_2), (4, .int (nI i7)), (3, .int x54_3), (0, .ref (a 0)), (1, .int x2)] → R = mL_safety_L54 r x2 x7_2 x7_3 i7 (mL_safety_K54 r x2 x7_2 x7_3 i7 (mL_safety_L7 r x2 n7)) n54 x54_2 x54_3 i54 → W p l e ({ frames := 2, cells := 0, slots := 0, locals := 45 }) s m ([.ref (a 0), .int x2] : List Value).toArray below meth c s.heap [] 0 0 (MQ below (kRi R) ([.ref (a 0), .int x2] : List Value).toArray s 0 0 (fun _ => False)) (F0 m 54 ls []) := by
                clear hE
                intro n54
                induction n54 with
                | zero =>
                  intro x54_2 x54_3 i54 hm54 hi54 ls hl hE
                  exact absurd hm54 (by omega)
                | succ n54 ih54 =>
                  intro x54_2 x54_3 i54 hm54 hi54 ls hl hE
                  replace hE := hE.trans mL_safety_L54_s
                  refine lv_iload hx hb dL_safety_54 (lv_at hl 0 rfl) ?_
                  refine lv_aload_n hx hb dL_safety_56 rfl (lv_at hl 4 rfl) ?_
                  refine lv_bipush (v := 49) hx hb dL_safety_57 (by decide) ?_
                  refine va_iald (D := E.1) hx hb hK.1 hP 0 0 rfl rfl (vp_in_nI (n := 49) (by decide) (by decide)) dL_safety_59 ?_
                  refine W.eq (g2 := F0 m 60 ls [.int ((r 0) 49), .int (nI i54)]) rfl ?_
                  refine lv_icmp_ge (tgt := 121) hx hb dL_safety_60 (by decide) (fun c_8 => ?_) (fun c_8 => ?_)
                  · replace hE := hE.trans (if_pos c_8)
                    replace hE := hE.trans mL_safety_K54_s
                    refine lv_iinc (v := (nI (i7 + 1))) (lv' := [(4, .int (nI (i7 + 1))), (5, .int (nI i54)), (2, .int x54_2), (3, .int x54_3), (0, .ref (a 0)), (1, .int x2)]) hx hb dL_safety_121 hl (k := 2) rfl (nI_1 i7) (by decide) rfl (fun ls hl => ?_)
                    refine lv_goto (tgt := 7) hx hb dL_safety_124 (by decide) ?_
                    exact ih7 x54_2 x54_3 (i7 + 1) (by omega) (by omega) ls (lv_sub hl [0, 3, 2, 4, 5] rfl) hE
                  · replace hE := hE.trans (if_neg c_8)
                    have hbc_8 : i54 < 12 := nOK.lt (by assumption) (by omega) c_8
                    refine lv_iload_n hx hb dL_safety_63 rfl (lv_at hl 3 rfl) ?_
                    refine lv_if_ne (tgt := 109) hx hb dL_safety_64 (by decide) (fun c_9 => ?_) (fun c_9 => ?_)
                    · replace hE := hE.trans (if_neg c_9)
                      refine lv_iconst (v := 1) hx hb dL_safety_109 (by decide) ?_
                      refine lv_goto (tgt := 114) hx hb dL_safety_110 (by decide) ?_
                      refine lv_istore_n (lv' := [(3, .int 1), (5, .int (nI i54)), (2, .int x54_2), (4, .int (nI i7)), (0, .ref (a 0)), (1, .int x2)]) hx hb dL_safety_114 rfl hl (by decide) rfl (fun ls hl => ?_)
                      refine lv_iinc (v := (nI (i54 + 1))) (lv' := [(5, .int (nI (i54 + 1))), (3, .int 1), (2, .int x54_2), (4, .int (nI i7)), (0, .ref (a 0)), (1, .int x2)]) hx hb dL_safety_115 hl (k := 1) rfl (nI_1 i54) (by decide) rfl (fun ls hl => ?_)
                      refine lv_goto (tgt := 54) hx hb dL_safety_118 (by decide) ?_
                      exact ih54 x54_2 1 (i54 + 1) (by omega) (by omega) ls (lv_sub hl [0, 2, 3, 1, 4, 5] rfl) hE
                    · replace hE := hE.trans (if_pos c_9)
                      refine lv_aload_n hx hb dL_safety_67 rfl (lv_at hl 4 rfl) ?_
                      refine lv_iload hx hb dL_safety_68 (lv_at hl 2 rfl) ?_
                      refine kCallRi (va_runS (As := [.ref (a 0), .int (nI i7)]) (rest := []) ⟨hx, hb, hml, hown, hts⟩ (c_L_isCommitted l E a r (nI i7) (by first | assumption | exact tOK.nI (by omega)) _ rfl) (va_cwS 2 hts gL_safety_L_isCommitted rfl rfl rfl (by decide +kernel) ⟨Nat.le_of_ble_eq_true rfl, Nat.le_of_ble_eq_true rfl⟩) (kPreS hK hP) rfl rfl hl.1 rfl (lv_room (Nat.le_of_ble_eq_true rfl)) dL_safety_70 ⟨Nat.zero_le _, Nat.zero_le _⟩) ?_
                      refine lv_if_eq (tgt := 113) hx hb dL_safety_73 (by decide) (fun c_10 => ?_) (fun c_10 => ?_)
                      · replace hE := hE.trans (if_pos c_10)
                        refine lv_iconst (v := 0) hx hb dL_safety_113 (by decide) ?_
                        refine lv_istore_n (lv' := [(3, .int 0), (5, .int (nI i54)), (2, .int x54_2), (4, .int (nI i7)), (0, .ref (a 0)), (1, .int x2)]) hx hb dL_safety_114 rfl hl (by decide) rfl (fun ls hl => ?_)
                        refine lv_iinc (v := (nI (i54 + 1))) (lv' := [(5, .int (nI (i54 + 1))), (3, .int 0), (2, .int x54_2), (4, .int (nI i7)), (0, .ref (a 0)), (1, .int x2)]) hx hb dL_safety_115 hl (k := 1) rfl (nI_1 i54) (by decide) rfl (fun ls hl => ?_)
                        refine lv_goto (tgt := 54) hx hb dL_safety_118 (by decide) ?_
                        exact ih54 x54_2 0 (i54 + 1) (by omega) (by omega) ls (lv_sub hl [0, 2, 3, 1, 4, 5] rfl) hE
                      · replace hE := hE.trans (if_neg c_10)
                        refine lv_aload_n hx hb dL_safety_76 rfl (lv_at hl 4 rfl) ?_
                        refine lv_iload hx hb dL_safety_77 (lv_at hl 2 rfl) ?_
                        refine lv_iload hx hb dL_safety_79 (lv_at hl 0 rfl) ?_
                        refine kCallRi (va_runS (As := [.ref (a 0), .int (nI i7), .int (nI i54)]) (rest := []) ⟨hx, hb, hml, hown, hts⟩ (c_L_isEdge l E a r (nI i7) (nI i54) (by first | assumption | exact tOK.nI (by omega)) (by first | assumption | exact tOK.nI (by omega)) _ rfl) (va_cwS 3 hts gL_safety_L_isEdge rfl rfl rfl (by decide +kernel) ⟨Nat.le_of_ble_eq_true rfl, Nat.le_of_ble_eq_true rfl⟩) (kPreS hK hP) rfl rfl hl.1 rfl (lv_room (Nat.le_of_ble_eq_true rfl)) dL_safety_81 ⟨Nat.zero_le _, Nat.zero_le _⟩) ?_
                        refine lv_if_eq (tgt := 113) hx hb dL_safety_84 (by decide) (fun c_11 => ?_) (fun c_11 => ?_)
                        · replace hE := hE.trans (if_pos c_11)
                          refine lv_iconst (v := 0) hx hb dL_safety_113 (by decide) ?_
                          refine lv_istore_n (lv' := [(3, .int 0), (5, .int (nI i54)), (2, .int x54_2), (4, .int (nI i7)), (0, .ref (a 0)), (1, .int x2)]) hx hb dL_safety_114 rfl hl (by decide) rfl (fun ls hl => ?_)
                          refine lv_iinc (v := (nI (i54 + 1))) (lv' := [(5, .int (nI (i54 + 1))), (3, .int 0), (2, .int x54_2), (4, .int (nI i7)), (0, .ref (a 0)), (1, .int x2)]) hx hb dL_safety_115 hl (k := 1) rfl (nI_1 i54) (by decide) rfl (fun ls hl => ?_)
                          refine lv_goto (tgt := 54) hx hb dL_safety_118 (by decide) ?_
                          exact ih54 x54_2 0 (i54 + 1) (by omega) (by omega) ls (lv_sub hl [0, 2, 3, 1, 4, 5] rfl) hE
                        · replace hE := hE.trans (if_neg c_11)
                          refine lv_aload_n hx hb dL_safety_87 rfl (lv_at hl 4 rfl) ?_
                          refine lv_iload hx hb dL_safety_88 (lv_at hl 0 rfl) ?_
                          refine kCallRi (va_runS (As := [.ref (a 0), .int (nI i54)]) (rest := []) ⟨hx, hb, hml, hown, hts⟩ (c_L_isCommitted l E a r (nI i54) (by first | assumption | exact tOK.nI (by omega)) _ rfl) (va_cwS 2 hts gL_safety_L_isCommitted rfl rfl rfl (by decide +kernel) ⟨Nat.le_of_ble_eq_true rfl, Nat.le_of_ble_eq_true rfl⟩) (kPreS hK hP) rfl rfl hl.1 rfl (lv_room (Nat.le_of_ble_eq_true rfl)) dL_safety_90 ⟨Nat.zero_le _, Nat.zero_le _⟩) ?_
                          refine lv_if_eq (tgt := 113) hx hb dL_safety_93 (by decide) (fun c_12 => ?_) (fun c_12 => ?_)
                          · replace hE := hE.trans (if_pos c_12)
                            refine lv_iconst (v := 0) hx hb dL_safety_113 (by decide) ?_
                            refine lv_istore_n (lv' := [(3, .int 0), (5, .int (nI i54)), (2, .int x54_2), (4, .int (nI i7)), (0, .ref (a 0)), (1, .int x2)]) hx hb dL_safety_114 rfl hl (by decide) rfl (fun ls hl => ?_)
                            refine lv_iinc (v := (nI (i54 + 1))) (lv' := [(5, .int (nI (i54 + 1))), (3, .int 0), (2, .int x54_2), (4, .int (nI i7)), (0, .ref (a 0)), (1, .int x2)]) hx hb dL_safety_115 hl (k := 1) rfl (nI_1 i54) (by decide) rfl (fun ls hl => ?_)
                            refine lv_goto (tgt := 54) hx hb dL_safety_118 (by decide) ?_
                            exact ih54 x54_2 0 (i54 + 1) (by omega) (by omega) ls (lv_sub hl [0, 2, 3, 1, 4, 5] rfl) hE
                          · replace hE := hE.trans (if_neg c_12)
                            refine lv_aload_n hx hb dL_safety_96 rfl (lv_at hl 4 rfl) ?_
                            refine lv_bipush (v := 12) hx hb dL_safety_97 (by decide) ?_
                            refine lv_iload hx hb dL_safety_99 (lv_at hl 0 rfl) ?_
                            refine lv_iadd hx hb dL_safety_101 ?_
                            refine va_iald (D := E.1) hx hb hK.1 hP 0 0 rfl rfl (rIn 12 (by decide) (by first | assumption | exact tOK.nI (by omega))) dL_safety_102 ?_
                            refine lv_aload_n hx hb dL_safety_103 rfl (lv_at hl 4 rfl) ?_
                            refine lv_iload_n hx hb dL_safety_104 rfl (lv_at hl 5 rfl) ?_
                            refine va_iald (D := E.1) hx hb hK.1 hP 0 0 rfl rfl (rIn0 (by first | assumption | exact tOK.nI (by omega))) dL_safety_105 ?_
                            refine lv_icmp_ge (tgt := 113) hx hb dL_safety_106 (by decide) (fun c_13 => ?_) (fun c_13 => ?_)
                            · replace hE := hE.trans (if_pos c_13)
                              refine lv_iconst (v := 0) hx hb dL_safety_113 (by decide) ?_
                              refine lv_istore_n (lv' := [(3, .int 0), (5, .int (nI i54)), (2, .int x54_2), (4, .int (nI i7)), (0, .ref (a 0)), (1, .int x2)]) hx hb dL_safety_114 rfl hl (by decide) rfl (fun ls hl => ?_)
                              refine lv_iinc (v := (nI (i54 + 1))) (lv' := [(5, .int (nI (i54 + 1))), (3, .int 0), (2, .int x54_2), (4, .int (nI i7)), (0, .ref (a 0)), (1, .int x2)]) hx hb dL_safety_115 hl (k := 1) rfl (nI_1 i54) (by decide) rfl (fun ls hl => ?_)
                              refine lv_goto (tgt := 54) hx hb dL_safety_118 (by decide) ?_
                              exact ih54 x54_2 0 (i54 + 1) (by omega) (by omega) ls (lv_sub hl [0, 2, 3, 1, 4, 5] rfl) hE
                            · replace hE := hE.trans (if_neg c_13)
                              refine lv_iconst (v := 1) hx hb dL_safety_109 (by decide) ?_
                              refine lv_goto (tgt := 114) hx hb dL_safety_110 (by decide) ?_
                              refine lv_istore_n (lv' := [(3, .int 1), (5, .int (nI i54)), (2, .int x54_2), (4, .int (nI i7)), (0, .ref (a 0)), (1, .int x2)]) hx hb dL_safety_114 rfl hl (by decide) rfl (fun ls hl => ?_)
                              refine lv_iinc (v := (nI (i54 + 1))) (lv' := [(5, .int (nI (i54 + 1))), (3, .int 1), (2, .int x54_2), (4, .int (nI i7)), (0, .ref (a 0)), (1, .int x2)]) hx hb dL_safety_115 hl (k := 1) rfl (nI_1 i54) (by decide) rfl (fun ls hl => ?_)
                              refine lv_goto (tgt := 54) hx hb dL_safety_118 (by decide) ?_
                              exact ih54 x54_2 1 (i54 + 1) (by omega) (by omega) ls (lv_sub hl [0, 2, 3, 1, 4, 5] rfl) hE
              exact lp54 13 1 x7_3 0 (by omega) (by omega) ls (lv_sub hl [0, 1, 2, 3, 4, 5] rfl) hE
  exact lp7 13 1 0 0 (by omega) (by omega) ls (lv_sub hl [0, 1, 2, 3, 4] rfl) hE
