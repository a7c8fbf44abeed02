def mL_tells_K34 (S : kS) (r : kG) (x10_2 : Int32) (x10_3 : Int32) (x10_4 : Int32) (i10 : Nat) (rec : Int32 → Int32 → Int32 → Nat → (Int32 × kS)) (x34_6 : Int32) (x34_7 : Int32) (x34_8 : Int32) (x34_9 : Int32) (i34 : Nat) : Int32 × kS :=
  if (x34_8 * x34_9) ≤ 0 then
    if 0 ≤ (r 0 ((12 + (nI i10))).toNatClampNeg) then
      if (r 0 ((12 + (nI i10))).toNatClampNeg) ≤ 0 then
        if (mX5_of S (nI i10) 0) = 0 then
          if (mX5_of S (nI i10) 1) = (r 0 ((nI i10)).toNatClampNeg) then
            if (mX5_of S (nI i10) 2) = (-6) then
              if (mX5_of S (nI i10) 3) = (r 0 ((24 + (nI i10))).toNatClampNeg) then
                if (mX5_of S (nI i10) 4) = (r 0 ((36 + (nI i10))).toNatClampNeg) then
                  if (mX5_of S (nI i10) 5) = x34_6 then
                    if (mX5_of S (nI i10) 6) = x34_7 then
                      if (mX5_of S (nI i10) 8) = (mL_safety r (nI i10)) then
                        if (mX5_of S (nI i10) 7) = (-6) then
                          rec (x10_2 + x34_8) (x10_3 + (x34_8 * x34_9)) (x10_4 ||| 0) (i10 + 1)
                        else
                          (0, S)
                      else
                        (0, S)
                    else
                      (0, S)
                  else
                    (0, S)
                else
                  (0, S)
              else
                (0, S)
            else
              (0, S)
          else
            (0, S)
        else
          (0, S)
      else
        if (mX5_of S (nI i10) 0) = 1 then
          if (mX5_of S (nI i10) 1) = (r 0 ((nI i10)).toNatClampNeg) then
            if (mX5_of S (nI i10) 2) = (r 0 ((12 + (nI i10))).toNatClampNeg) then
              if (mX5_of S (nI i10) 3) = (r 0 ((24 + (nI i10))).toNatClampNeg) then
                if (mX5_of S (nI i10) 4) = (r 0 ((36 + (nI i10))).toNatClampNeg) then
                  if (mX5_of S (nI i10) 5) = x34_6 then
                    if (mX5_of S (nI i10) 6) = x34_7 then
                      if (mX5_of S (nI i10) 8) = (mL_safety r (nI i10)) then
                        if (mX5_of S (nI i10) 7) = (-6) then
                          rec (x10_2 + x34_8) (x10_3 + (x34_8 * x34_9)) (x10_4 ||| 0) (i10 + 1)
                        else
                          (0, S)
                      else
                        (0, S)
                    else
                      (0, S)
                  else
                    (0, S)
                else
                  (0, S)
              else
                (0, S)
            else
              (0, S)
          else
            (0, S)
        else
          (0, S)
    else
      if (mX5_of S (nI i10) 0) = 2 then
        if (mX5_of S (nI i10) 1) = (r 0 ((nI i10)).toNatClampNeg) then
          if (mX5_of S (nI i10) 2) = (-6) then
            if (mX5_of S (nI i10) 3) = (r 0 ((24 + (nI i10))).toNatClampNeg) then
              if (mX5_of S (nI i10) 4) = (r 0 ((36 + (nI i10))).toNatClampNeg) then
                if (mX5_of S (nI i10) 5) = x34_6 then
                  if (mX5_of S (nI i10) 6) = x34_7 then
                    if (mX5_of S (nI i10) 8) = (mL_safety r (nI i10)) then
                      if (mX5_of S (nI i10) 7) = (-6) then
                        (0, S)
                      else
                        rec (x10_2 + x34_8) (x10_3 + (x34_8 * x34_9)) (x10_4 ||| 0) (i10 + 1)
                    else
                      (0, S)
                  else
                    (0, S)
                else
                  (0, S)
              else
                (0, S)
            else
              (0, S)
          else
            (0, S)
        else
          (0, S)
      else
        (0, S)
  else
    if 0 ≤ (r 0 ((12 + (nI i10))).toNatClampNeg) then
      if (r 0 ((12 + (nI i10))).toNatClampNeg) ≤ 0 then
        if (mX5_of S (nI i10) 0) = 0 then
          if (mX5_of S (nI i10) 1) = (r 0 ((nI i10)).toNatClampNeg) then
            if (mX5_of S (nI i10) 2) = (-6) then
              if (mX5_of S (nI i10) 3) = (r 0 ((24 + (nI i10))).toNatClampNeg) then
                if (mX5_of S (nI i10) 4) = (r 0 ((36 + (nI i10))).toNatClampNeg) then
                  if (mX5_of S (nI i10) 5) = x34_6 then
                    if (mX5_of S (nI i10) 6) = x34_7 then
                      if (mX5_of S (nI i10) 8) = (mL_safety r (nI i10)) then
                        if (mX5_of S (nI i10) 7) = (-6) then
                          rec (x10_2 + x34_8) (x10_3 + (x34_8 * x34_9)) (x10_4 ||| (1 <<< ((nI i10) &&& 31))) (i10 + 1)
                        else
                          (0, S)
                      else
                        (0, S)
                    else
                      (0, S)
                  else
                    (0, S)
                else
                  (0, S)
              else
                (0, S)
            else
              (0, S)
          else
            (0, S)
        else
          (0, S)
      else
        if (mX5_of S (nI i10) 0) = 1 then
          if (mX5_of S (nI i10) 1) = (r 0 ((nI i10)).toNatClampNeg) then
            if (mX5_of S (nI i10) 2) = (r 0 ((12 + (nI i10))).toNatClampNeg) then
              if (mX5_of S (nI i10) 3) = (r 0 ((24 + (nI i10))).toNatClampNeg) then
                if (mX5_of S (nI i10) 4) = (r 0 ((36 + (nI i10))).toNatClampNeg) then
                  if (mX5_of S (nI i10) 5) = x34_6 then
                    if (mX5_of S (nI i10) 6) = x34_7 then
                      if (mX5_of S (nI i10) 8) = (mL_safety r (nI i10)) then
                        if (mX5_of S (nI i10) 7) = (-6) then
                          rec (x10_2 + x34_8) (x10_3 + (x34_8 * x34_9)) (x10_4 ||| (1 <<< ((nI i10) &&& 31))) (i10 + 1)
                        else
                          (0, S)
                      else
                        (0, S)
                    else
                      (0, S)
                  else
                    (0, S)
                else
                  (0, S)
              else
                (0, S)
            else
              (0, S)
          else
            (0, S)
        else
          (0, S)
    else
      if (mX5_of S (nI i10) 0) = 2 then
        if (mX5_of S (nI i10) 1) = (r 0 ((nI i10)).toNatClampNeg) then
          if (mX5_of S (nI i10) 2) = (-6) then
            if (mX5_of S (nI i10) 3) = (r 0 ((24 + (nI i10))).toNatClampNeg) then
              if (mX5_of S (nI i10) 4) = (r 0 ((36 + (nI i10))).toNatClampNeg) then
                if (mX5_of S (nI i10) 5) = x34_6 then
                  if (mX5_of S (nI i10) 6) = x34_7 then
                    if (mX5_of S (nI i10) 8) = (mL_safety r (nI i10)) then
                      if (mX5_of S (nI i10) 7) = (-6) then
                        (0, S)
                      else
                        rec (x10_2 + x34_8) (x10_3 + (x34_8 * x34_9)) (x10_4 ||| (1 <<< ((nI i10) &&& 31))) (i10 + 1)
                    else
                      (0, S)
                  else
                    (0, S)
                else
                  (0, S)
              else
                (0, S)
            else
              (0, S)
          else
            (0, S)
        else
          (0, S)
      else
        (0, S)
theorem mL_tells_K34_s {S : kS} {r : kG} {x10_2 : Int32} {x10_3 : Int32} {x10_4 : Int32} {i10 : Nat} {rec : Int32 → Int32 → Int32 → Nat → (Int32 × kS)} {x34_6 : Int32} {x34_7 : Int32} {x34_8 : Int32} {x34_9 : Int32} {i34 : Nat} : mL_tells_K34 S r x10_2 x10_3 x10_4 i10 rec x34_6 x34_7 x34_8 x34_9 i34 = (
  if (x34_8 * x34_9) ≤ 0 then
    if 0 ≤ (r 0 ((12 + (nI i10))).toNatClampNeg) then
      if (r 0 ((12 + (nI i10))).toNatClampNeg) ≤ 0 then
        if (mX5_of S (nI i10) 0) = 0 then
          if (mX5_of S (nI i10) 1) = (r 0 ((nI i10)).toNatClampNeg) then
            if (mX5_of S (nI i10) 2) = (-6) then
              if (mX5_of S (nI i10) 3) = (r 0 ((24 + (nI i10))).toNatClampNeg) then
                if (mX5_of S (nI i10) 4) = (r 0 ((36 + (nI i10))).toNatClampNeg) then
                  if (mX5_of S (nI i10) 5) = x34_6 then
                    if (mX5_of S (nI i10) 6) = x34_7 then
                      if (mX5_of S (nI i10) 8) = (mL_safety r (nI i10)) then
                        if (mX5_of S (nI i10) 7) = (-6) then
                          rec (x10_2 + x34_8) (x10_3 + (x34_8 * x34_9)) (x10_4 ||| 0) (i10 + 1)
                        else
                          (0, S)
                      else
                        (0, S)
                    else
                      (0, S)
                  else
                    (0, S)
                else
                  (0, S)
              else
                (0, S)
            else
              (0, S)
          else
            (0, S)
        else
          (0, S)
      else
        if (mX5_of S (nI i10) 0) = 1 then
          if (mX5_of S (nI i10) 1) = (r 0 ((nI i10)).toNatClampNeg) then
            if (mX5_of S (nI i10) 2) = (r 0 ((12 + (nI i10))).toNatClampNeg) then
              if (mX5_of S (nI i10) 3) = (r 0 ((24 + (nI i10))).toNatClampNeg) then
                if (mX5_of S (nI i10) 4) = (r 0 ((36 + (nI i10))).toNatClampNeg) then
                  if (mX5_of S (nI i10) 5) = x34_6 then
                    if (mX5_of S (nI i10) 6) = x34_7 then
                      if (mX5_of S (nI i10) 8) = (mL_safety r (nI i10)) then
                        if (mX5_of S (nI i10) 7) = (-6) then
                          rec (x10_2 + x34_8) (x10_3 + (x34_8 * x34_9)) (x10_4 ||| 0) (i10 + 1)
                        else
                          (0, S)
                      else
                        (0, S)
                    else
                      (0, S)
                  else
                    (0, S)
                else
                  (0, S)
              else
                (0, S)
            else
              (0, S)
          else
            (0, S)
        else
          (0, S)
    else
      if (mX5_of S (nI i10) 0) = 2 then
        if (mX5_of S (nI i10) 1) = (r 0 ((nI i10)).toNatClampNeg) then
          if (mX5_of S (nI i10) 2) = (-6) then
            if (mX5_of S (nI i10) 3) = (r 0 ((24 + (nI i10))).toNatClampNeg) then
              if (mX5_of S (nI i10) 4) = (r 0 ((36 + (nI i10))).toNatClampNeg) then
                if (mX5_of S (nI i10) 5) = x34_6 then
                  if (mX5_of S (nI i10) 6) = x34_7 then
                    if (mX5_of S (nI i10) 8) = (mL_safety r (nI i10)) then
                      if (mX5_of S (nI i10) 7) = (-6) then
                        (0, S)
                      else
                        rec (x10_2 + x34_8) (x10_3 + (x34_8 * x34_9)) (x10_4 ||| 0) (i10 + 1)
                    else
                      (0, S)
                  else
                    (0, S)
                else
                  (0, S)
              else
                (0, S)
            else
              (0, S)
          else
            (0, S)
        else
          (0, S)
      else
        (0, S)
  else
    if 0 ≤ (r 0 ((12 + (nI i10))).toNatClampNeg) then
      if (r 0 ((12 + (nI i10))).toNatClampNeg) ≤ 0 then
        if (mX5_of S (nI i10) 0) = 0 then
          if (mX5_of S (nI i10) 1) = (r 0 ((nI i10)).toNatClampNeg) then
            if (mX5_of S (nI i10) 2) = (-6) then
              if (mX5_of S (nI i10) 3) = (r 0 ((24 + (nI i10))).toNatClampNeg) then
                if (mX5_of S (nI i10) 4) = (r 0 ((36 + (nI i10))).toNatClampNeg) then
                  if (mX5_of S (nI i10) 5) = x34_6 then
                    if (mX5_of S (nI i10) 6) = x34_7 then
                      if (mX5_of S (nI i10) 8) = (mL_safety r (nI i10)) then
                        if (mX5_of S (nI i10) 7) = (-6) then
                          rec (x10_2 + x34_8) (x10_3 + (x34_8 * x34_9)) (x10_4 ||| (1 <<< ((nI i10) &&& 31))) (i10 + 1)
                        else
                          (0, S)
                      else
                        (0, S)
                    else
                      (0, S)
                  else
                    (0, S)
                else
                  (0, S)
              else
                (0, S)
            else
              (0, S)
          else
            (0, S)
        else
          (0, S)
      else
        if (mX5_of S (nI i10) 0) = 1 then
          if (mX5_of S (nI i10) 1) = (r 0 ((nI i10)).toNatClampNeg) then
            if (mX5_of S (nI i10) 2) = (r 0 ((12 + (nI i10))).toNatClampNeg) then
              if (mX5_of S (nI i10) 3) = (r 0 ((24 + (nI i10))).toNatClampNeg) then
                if (mX5_of S (nI i10) 4) = (r 0 ((36 + (nI i10))).toNatClampNeg) then
                  if (mX5_of S (nI i10) 5) = x34_6 then
                    if (mX5_of S (nI i10) 6) = x34_7 then
                      if (mX5_of S (nI i10) 8) = (mL_safety r (nI i10)) then
                        if (mX5_of S (nI i10) 7) = (-6) then
                          rec (x10_2 + x34_8) (x10_3 + (x34_8 * x34_9)) (x10_4 ||| (1 <<< ((nI i10) &&& 31))) (i10 + 1)
                        else
                          (0, S)
                      else
                        (0, S)
                    else
                      (0, S)
                  else
                    (0, S)
                else
                  (0, S)
              else
                (0, S)
            else
              (0, S)
          else
            (0, S)
        else
          (0, S)
    else
      if (mX5_of S (nI i10) 0) = 2 then
        if (mX5_of S (nI i10) 1) = (r 0 ((nI i10)).toNatClampNeg) then
          if (mX5_of S (nI i10) 2) = (-6) then
            if (mX5_of S (nI i10) 3) = (r 0 ((24 + (nI i10))).toNatClampNeg) then
              if (mX5_of S (nI i10) 4) = (r 0 ((36 + (nI i10))).toNatClampNeg) then
                if (mX5_of S (nI i10) 5) = x34_6 then
                  if (mX5_of S (nI i10) 6) = x34_7 then
                    if (mX5_of S (nI i10) 8) = (mL_safety r (nI i10)) then
                      if (mX5_of S (nI i10) 7) = (-6) then
                        (0, S)
                      else
                        rec (x10_2 + x34_8) (x10_3 + (x34_8 * x34_9)) (x10_4 ||| (1 <<< ((nI i10) &&& 31))) (i10 + 1)
                    else
                      (0, S)
                  else
                    (0, S)
                else
                  (0, S)
              else
                (0, S)
            else
              (0, S)
          else
            (0, S)
        else
          (0, S)
      else
        (0, S) : Int32 × kS) := rfl
def mL_tells_L34 (S : kS) (r : kG) (x10_2 : Int32) (x10_3 : Int32) (x10_4 : Int32) (i10 : Nat) (kk : Int32 → Int32 → Int32 → Int32 → Nat → (Int32 × kS)) : Nat → Int32 → Int32 → Int32 → Int32 → Nat → (Int32 × kS)
  | 0, _, _, _, _, _ => (0, S)
  | n34 + 1, x34_6, x34_7, x34_8, x34_9, i34 =>
    if (r 0 49) ≤ (nI i34) then
      kk x34_6 x34_7 x34_8 x34_9 i34
    else
      if (mL_isEdge r (nI i10) (nI i34)) = 0 then
        if (mX5_edge S (nI i10) (nI i34)) = 0 then
          if (mX5_over S (nI i10) (nI i34)) = (-6) then
            if (mL_isEdge r (nI i34) (nI i10)) = 0 then
              mL_tells_L34 S r x10_2 x10_3 x10_4 i10 kk n34 (x34_6 ||| 0) (x34_7 ||| 0) (x34_8 + 0) (x34_9 + 0) (i34 + 1)
            else
              mL_tells_L34 S r x10_2 x10_3 x10_4 i10 kk n34 (x34_6 ||| 0) (x34_7 ||| (1 <<< ((nI i34) &&& 31))) (x34_8 + 0) (x34_9 + 1) (i34 + 1)
          else
            (0, S)
        else
          (0, S)
      else
        if (mX5_edge S (nI i10) (nI i34)) = 1 then
          if (1 <<< ((mX5_over S (nI i10) (nI i34)) &&& 31)) = (((r 0 ((24 + (nI i10))).toNatClampNeg) &&& (r 0 ((36 + (nI i34))).toNatClampNeg)) &&& (-((r 0 ((24 + (nI i10))).toNatClampNeg) &&& (r 0 ((36 + (nI i34))).toNatClampNeg)))) then
            if (mL_isEdge r (nI i34) (nI i10)) = 0 then
              mL_tells_L34 S r x10_2 x10_3 x10_4 i10 kk n34 (x34_6 ||| (1 <<< ((nI i34) &&& 31))) (x34_7 ||| 0) (x34_8 + 1) (x34_9 + 0) (i34 + 1)
            else
              mL_tells_L34 S r x10_2 x10_3 x10_4 i10 kk n34 (x34_6 ||| (1 <<< ((nI i34) &&& 31))) (x34_7 ||| (1 <<< ((nI i34) &&& 31))) (x34_8 + 1) (x34_9 + 1) (i34 + 1)
          else
            (0, S)
        else
          (0, S)
theorem mL_tells_L34_s {S : kS} {r : kG} {x10_2 : Int32} {x10_3 : Int32} {x10_4 : Int32} {i10 : Nat} {kk : Int32 → Int32 → Int32 → Int32 → Nat → (Int32 × kS)} {n34 : Nat} {x34_6 : Int32} {x34_7 : Int32} {x34_8 : Int32} {x34_9 : Int32} {i34 : Nat} : mL_tells_L34 S r x10_2 x10_3 x10_4 i10 kk (n34 + 1) x34_6 x34_7 x34_8 x34_9 i34 = (
    if (r 0 49) ≤ (nI i34) then
      kk x34_6 x34_7 x34_8 x34_9 i34
    else
      if (mL_isEdge r (nI i10) (nI i34)) = 0 then
        if (mX5_edge S (nI i10) (nI i34)) = 0 then
          if (mX5_over S (nI i10) (nI i34)) = (-6) then
            if (mL_isEdge r (nI i34) (nI i10)) = 0 then
              mL_tells_L34 S r x10_2 x10_3 x10_4 i10 kk n34 (x34_6 ||| 0) (x34_7 ||| 0) (x34_8 + 0) (x34_9 + 0) (i34 + 1)
            else
              mL_tells_L34 S r x10_2 x10_3 x10_4 i10 kk n34 (x34_6 ||| 0) (x34_7 ||| (1 <<< ((nI i34) &&& 31))) (x34_8 + 0) (x34_9 + 1) (i34 + 1)
          else
            (0, S)
        else
          (0, S)
      else
        if (mX5_edge S (nI i10) (nI i34)) = 1 then
          if (1 <<< ((mX5_over S (nI i10) (nI i34)) &&& 31)) = (((r 0 ((24 + (nI i10))).toNatClampNeg) &&& (r 0 ((36 + (nI i34))).toNatClampNeg)) &&& (-((r 0 ((24 + (nI i10))).toNatClampNeg) &&& (r 0 ((36 + (nI i34))).toNatClampNeg)))) then
            if (mL_isEdge r (nI i34) (nI i10)) = 0 then
              mL_tells_L34 S r x10_2 x10_3 x10_4 i10 kk n34 (x34_6 ||| (1 <<< ((nI i34) &&& 31))) (x34_7 ||| 0) (x34_8 + 1) (x34_9 + 0) (i34 + 1)
            else
              mL_tells_L34 S r x10_2 x10_3 x10_4 i10 kk n34 (x34_6 ||| (1 <<< ((nI i34) &&& 31))) (x34_7 ||| (1 <<< ((nI i34) &&& 31))) (x34_8 + 1) (x34_9 + 1) (i34 + 1)
          else
            (0, S)
        else
          (0, S) : Int32 × kS) := rfl
def mL_tells_L10 (S : kS) (r : kG) : Nat → Int32 → Int32 → Int32 → Nat → (Int32 × kS)
  | 0, _, _, _, _ => (0, S)
  | n10 + 1, x10_2, x10_3, x10_4, i10 =>
    if (r 0 49) ≤ (nI i10) then
      (fun (g_2 : Int32 × kS) =>
        if (g_2.1) = (r 0 49) then
          (fun (g_4 : Int32 × kS) =>
            if (g_4.1) = (r 0 48) then
              (fun (g_6 : Int32 × kS) =>
                if (g_6.1) = x10_2 then
                  (fun (g_8 : Int32 × kS) =>
                    if (g_8.1) = x10_4 then
                      (fun (g_10 : Int32 × kS) =>
                        if (g_10.1) = x10_3 then
                          if (mX5_of (g_10.2) (r 0 49) 0) = (-1) then
                            (1, (g_10.2))
                          else
                            (0, (g_10.2))
                        else
                          (0, (g_10.2)))
                        (mX5_count (g_8.2) 8)
                    else
                      (0, (g_8.2)))
                    (mX5_count (g_6.2) 7)
                else
                  (0, (g_6.2)))
                (mX5_count (g_4.2) 6)
            else
              (0, (g_4.2)))
            (mX5_count (g_2.2) 4)
        else
          (0, (g_2.2)))
        (mX5_count S 0)
    else
      mL_tells_L34 S r x10_2 x10_3 x10_4 i10 (mL_tells_K34 S r x10_2 x10_3 x10_4 i10 (mL_tells_L10 S r n10)) 13 0 0 0 0 0
theorem mL_tells_L10_s {S : kS} {r : kG} {n10 : Nat} {x10_2 : Int32} {x10_3 : Int32} {x10_4 : Int32} {i10 : Nat} : mL_tells_L10 S r (n10 + 1) x10_2 x10_3 x10_4 i10 = (
    if (r 0 49) ≤ (nI i10) then
      (fun (g_2 : Int32 × kS) =>
        if (g_2.1) = (r 0 49) then
          (fun (g_4 : Int32 × kS) =>
            if (g_4.1) = (r 0 48) then
              (fun (g_6 : Int32 × kS) =>
                if (g_6.1) = x10_2 then
                  (fun (g_8 : Int32 × kS) =>
                    if (g_8.1) = x10_4 then
                      (fun (g_10 : Int32 × kS) =>
                        if (g_10.1) = x10_3 then
                          if (mX5_of (g_10.2) (r 0 49) 0) = (-1) then
                            (1, (g_10.2))
                          else
                            (0, (g_10.2))
                        else
                          (0, (g_10.2)))
                        (mX5_count (g_8.2) 8)
                    else
                      (0, (g_8.2)))
                    (mX5_count (g_6.2) 7)
                else
                  (0, (g_6.2)))
                (mX5_count (g_4.2) 6)
            else
              (0, (g_4.2)))
            (mX5_count (g_2.2) 4)
        else
          (0, (g_2.2)))
        (mX5_count S 0)
    else
      mL_tells_L34 S r x10_2 x10_3 x10_4 i10 (mL_tells_K34 S r x10_2 x10_3 x10_4 i10 (mL_tells_L10 S r n10)) 13 0 0 0 0 0 : Int32 × kS) := rfl
def mL_tells (S : kS) (r : kG) : Int32 × kS :=
  mL_tells_L10 S r 13 0 0 0 0
theorem mL_tells_s {S : kS} {r : kG} : mL_tells S r = (
  mL_tells_L10 S r 13 0 0 0 0 : Int32 × kS) := rfl
set_option maxHeartbeats 4000000 in
set_option maxRecDepth 100000 in
theorem c_L_tells (l : Launch) (E : kE) (ad : Nat → Nat) (S : kS) (hs : kSep ad) (a : Nat → Nat) (r : kG) (hap : ∀ q, kA ad 90 q → ¬ kA a 1 q) (hn : nOK (S 0 0 2)) (hnr : nOK (r 0 49)) (R : Int32 × kS) (hE : R = mL_tells S r) : Met l yL_tells wsL_tells ({ frames := 6, cells := 0, slots := 0, locals := 138 }) (kPreT E [.ref (ad 80), .ref (a 0)] ad S a r) (kYi E R.1 ad R.2) 0 0 (kA ad 90) := by
  refine Met.ofW (cc := cL_tells) (maxL := 14) (ret := (some .boolean)) (by decide) rfl ?_
  intro p e s m args below meth c s₁ B hml hv
  obtain ⟨rfl, hK, hY, hR⟩ := hv
  have hx := B.exec
  have hb := B.bytes
  have hr := B.returns
  have hts := atoms_spec (ws := wsL_tells) B.pre
  have hown : s.vm.findClass RL = some m.cls := findClass_of_methodNamed B.named
  have hlocks := B.notSynchronized
  have hS : va_S (kA ad 90) s.heap s.heap [] := va_S.rf
  have hl := lv_entry ([.ref (ad 80), .ref (a 0)]) (n := 14) (Nat.le_of_ble_eq_true rfl)
  rw [lg_entry_eq]
  generalize (lg_sl ([.ref (ad 80), .ref (a 0)]) ++ List.replicate (14 - (lg_sl ([.ref (ad 80), .ref (a 0)])).length) Slot.unset).toArray = ls at hl ⊢
  have hl : lv_has ls 14 [(0, .ref (ad 80)), (1, .ref (a 0))] := hl
  replace hE := hE.trans mL_tells_s
  refine lv_iconst (v := 0) hx hb dL_tells_0 (by decide) ?_
  refine lv_istore_n (lv' := [(2, .int 0), (0, .ref (ad 80)), (1, .ref (a 0))]) hx hb dL_tells_1 rfl hl (by decide) rfl (fun ls hl => ?_)
  refine lv_iconst (v := 0) hx hb dL_tells_2 (by decide) ?_
  refine lv_istore_n (lv' := [(3, .int 0), (2, .int 0), (0, .ref (ad 80)), (1, .ref (a 0))]) hx hb dL_tells_3 rfl hl (by decide) rfl (fun ls hl => ?_)
  refine lv_iconst (v := 0) hx hb dL_tells_4 (by decide) ?_
  refine lv_istore (lv' := [(4, .int 0), (3, .int 0), (2, .int 0), (0, .ref (ad 80)), (1, .ref (a 0))]) hx hb dL_tells_5 hl (by decide) rfl (fun ls hl => ?_)
  refine lv_iconst (v := 0) hx hb dL_tells_7 (by decide) ?_
  refine lv_istore (lv' := [(5, .int 0), (4, .int 0), (3, .int 0), (2, .int 0), (0, .ref (ad 80)), (1, .ref (a 0))]) hx hb dL_tells_8 hl (by decide) rfl (fun ls hl => ?_)
  have lp10 : ∀ (n10 : Nat) (x10_2 : Int32) (x10_3 : Int32) (x10_4 : Int32) (i10 : Nat), (12 < i10 + n10) → (i10 ≤ 12) → ∀ ls : Array Slot, lv_has ls 14 [(5, .int (nI i10)), (4, .int x10_4), (3, .int x10_3), (2, .int x10_2), (0, .ref (ad 80)), (1, .ref (a 0))] → R = mL_tells_L10 S r n10 x10_2 x10_3 x10_4 i10 → W p l e ({ frames := 6, cells := 0, slots := 0, locals := 138 }) s m ([.ref (ad 80), .ref (a 0)] : List Value).toArray below meth c s.heap [] 0 0 (MQ below (kYi E R.1 ad R.2) ([.ref (ad 80), .ref (a 0)] : List Value).toArray s 0 0 (kA ad 90)) (F0 m 10 ls []) := by
    clear hE
    intro n10
    induction n10 with
    | zero =>
      intro x10_2 x10_3 x10_4 i10 hm10 hi10 ls hl hE
      exact absurd hm10 (by omega)
    | succ n10 ih10 =>
      intro x10_2 x10_3 x10_4 i10 hm10 hi10 ls hl hE
      replace hE := hE.trans mL_tells_L10_s
      refine lv_iload hx hb dL_tells_10 (lv_at hl 0 rfl) ?_
      refine lv_aload_n hx hb dL_tells_12 rfl (lv_at hl 5 rfl) ?_
      refine lv_bipush (v := 49) hx hb dL_tells_13 (by decide) ?_
      refine va_iald (D := E.1) hx hb hK.1 hR 0 0 rfl rfl (vp_in_nI (n := 49) (by decide) (by decide)) dL_tells_15 ?_
      refine W.eq (g2 := F0 m 16 ls [.int (r 0 49), .int (nI i10)]) rfl ?_
      refine lv_icmp_ge (tgt := 464) hx hb dL_tells_16 (by decide) (fun c_1 => ?_) (fun c_1 => ?_)
      · replace hE := hE.trans (if_pos c_1)
        refine lv_aload_n hx hb dL_tells_464 rfl (lv_at hl 4 rfl) ?_
        refine lv_iconst (v := 0) hx hb dL_tells_465 (by decide) ?_
        refine kCallYi (va_runV (As := [.int 0]) (rest := []) ⟨hx, hb, hml, hown, hts⟩ (c_X5_count l E ad S hs 0 (by assumption) _ rfl) (cwV 1 hts gL_tells_X5_count rfl rfl rfl (by decide +kernel) ⟨Nat.le_of_ble_eq_true rfl, Nat.le_of_ble_eq_true rfl⟩) (kPreYV hK hY.2.1 hY (q0 := 0) rfl rfl) rfl rfl hl.1 rfl (lv_room (Nat.le_of_ble_eq_true rfl)) dL_tells_466 ⟨Nat.le_of_ble_eq_true rfl, Nat.le_of_ble_eq_true rfl⟩) hS (fun _ h => h) (fun H1 locs1 hY _ hk hS => ?_)
        have hR := kP_kept hR (dR (fun i j h1 h2 _ => by omega) _) (fun q z y => hap q y z) hk
        have hn1 : nOK (((mX5_count S 0)).2 0 0 2) := count_n (S := S) _ (by assumption)
        refine kGen (mX5_count S 0) (fun g_2 hg_2 => ?_)
        rw [hg_2] at hE hY hn1 ⊢
        try dsimp only at hE
        refine lv_aload_n hx hb dL_tells_469 rfl (lv_at hl 5 rfl) ?_
        refine lv_bipush (v := 49) hx hb dL_tells_470 (by decide) ?_
        refine va_iald (D := E.1) hx hb hK.1 hR 0 0 rfl rfl (vp_in_nI (n := 49) (by decide) (by decide)) dL_tells_472 ?_
        refine W.eq (g2 := F0 m 473 ls [.int (r 0 49), .int (g_2.1)]) rfl ?_
        refine lv_icmp_ne (tgt := 536) hx hb dL_tells_473 (by decide) (fun c_3 => ?_) (fun c_3 => ?_)
        · replace hE := hE.trans (if_neg c_3)
          refine lv_iconst (v := 0) hx hb dL_tells_536 (by decide) ?_
          subst R
          exact W.zret (v := 0) (ty := .boolean) hx hb hr rfl (fun t ht hW => ⟨rfl, by rw [ht]; exact hY, hS.F ht⟩) hS.2.2 dL_tells_537
        · replace hE := hE.trans (if_pos c_3)
          refine lv_aload_n hx hb dL_tells_476 rfl (lv_at hl 4 rfl) ?_
          refine lv_iconst (v := 4) hx hb dL_tells_477 (by decide) ?_
          refine kCallYi (va_runV (As := [.int 4]) (rest := []) ⟨hx, hb, hml, hown, hts⟩ (c_X5_count l E ad (g_2.2) hs 4 (by assumption) _ rfl) (cwV 1 hts gL_tells_X5_count rfl rfl rfl (by decide +kernel) ⟨Nat.le_of_ble_eq_true rfl, Nat.le_of_ble_eq_true rfl⟩) (kPreYV hK hY.2.1 hY (q0 := 0) rfl rfl) rfl rfl hl.1 rfl (lv_room (Nat.le_of_ble_eq_true rfl)) dL_tells_478 ⟨Nat.le_of_ble_eq_true rfl, Nat.le_of_ble_eq_true rfl⟩) hS (fun _ h => h) (fun H1 locs1 hY _ hk hS => ?_)
          have hR := kP_kept hR (dR (fun i j h1 h2 _ => by omega) _) (fun q z y => hap q y z) hk
          have hn1 : nOK (((mX5_count (g_2.2) 4)).2 0 0 2) := count_n (S := (g_2.2)) _ (by assumption)
          refine kGen (mX5_count (g_2.2) 4) (fun g_4 hg_4 => ?_)
          rw [hg_4] at hE hY hn1 ⊢
          try dsimp only at hE
          refine lv_aload_n hx hb dL_tells_481 rfl (lv_at hl 5 rfl) ?_
          refine lv_bipush (v := 48) hx hb dL_tells_482 (by decide) ?_
          refine va_iald (D := E.1) hx hb hK.1 hR 0 0 rfl rfl (vp_in_nI (n := 48) (by decide) (by decide)) dL_tells_484 ?_
          refine W.eq (g2 := F0 m 485 ls [.int (r 0 48), .int (g_4.1)]) rfl ?_
          refine lv_icmp_ne (tgt := 536) hx hb dL_tells_485 (by decide) (fun c_5 => ?_) (fun c_5 => ?_)
          · replace hE := hE.trans (if_neg c_5)
            refine lv_iconst (v := 0) hx hb dL_tells_536 (by decide) ?_
            subst R
            exact W.zret (v := 0) (ty := .boolean) hx hb hr rfl (fun t ht hW => ⟨rfl, by rw [ht]; exact hY, hS.F ht⟩) hS.2.2 dL_tells_537
          · replace hE := hE.trans (if_pos c_5)
            refine lv_aload_n hx hb dL_tells_488 rfl (lv_at hl 4 rfl) ?_
            refine lv_bipush (v := 6) hx hb dL_tells_489 (by decide) ?_
            refine kCallYi (va_runV (As := [.int 6]) (rest := []) ⟨hx, hb, hml, hown, hts⟩ (c_X5_count l E ad (g_4.2) hs 6 (by assumption) _ rfl) (cwV 1 hts gL_tells_X5_count rfl rfl rfl (by decide +kernel) ⟨Nat.le_of_ble_eq_true rfl, Nat.le_of_ble_eq_true rfl⟩) (kPreYV hK hY.2.1 hY (q0 := 0) rfl rfl) rfl rfl hl.1 rfl (lv_room (Nat.le_of_ble_eq_true rfl)) dL_tells_491 ⟨Nat.le_of_ble_eq_true rfl, Nat.le_of_ble_eq_true rfl⟩) hS (fun _ h => h) (fun H1 locs1 hY _ hk hS => ?_)
            have hR := kP_kept hR (dR (fun i j h1 h2 _ => by omega) _) (fun q z y => hap q y z) hk
            have hn1 : nOK (((mX5_count (g_4.2) 6)).2 0 0 2) := count_n (S := (g_4.2)) _ (by assumption)
            refine kGen (mX5_count (g_4.2) 6) (fun g_6 hg_6 => ?_)
            rw [hg_6] at hE hY hn1 ⊢
            try dsimp only at hE
            refine lv_iload_n hx hb dL_tells_494 rfl (lv_at hl 3 rfl) ?_
            refine lv_icmp_ne (tgt := 536) hx hb dL_tells_495 (by decide) (fun c_7 => ?_) (fun c_7 => ?_)
            · replace hE := hE.trans (if_neg c_7)
              refine lv_iconst (v := 0) hx hb dL_tells_536 (by decide) ?_
              subst R
              exact W.zret (v := 0) (ty := .boolean) hx hb hr rfl (fun t ht hW => ⟨rfl, by rw [ht]; exact hY, hS.F ht⟩) hS.2.2 dL_tells_537
            · replace hE := hE.trans (if_pos c_7)
              refine lv_aload_n hx hb dL_tells_498 rfl (lv_at hl 4 rfl) ?_
              refine lv_bipush (v := 7) hx hb dL_tells_499 (by decide) ?_
              refine kCallYi (va_runV (As := [.int 7]) (rest := []) ⟨hx, hb, hml, hown, hts⟩ (c_X5_count l E ad (g_6.2) hs 7 (by assumption) _ rfl) (cwV 1 hts gL_tells_X5_count rfl rfl rfl (by decide +kernel) ⟨Nat.le_of_ble_eq_true rfl, Nat.le_of_ble_eq_true rfl⟩) (kPreYV hK hY.2.1 hY (q0 := 0) rfl rfl) rfl rfl hl.1 rfl (lv_room (Nat.le_of_ble_eq_true rfl)) dL_tells_501 ⟨Nat.le_of_ble_eq_true rfl, Nat.le_of_ble_eq_true rfl⟩) hS (fun _ h => h) (fun H1 locs1 hY _ hk hS => ?_)
              have hR := kP_kept hR (dR (fun i j h1 h2 _ => by omega) _) (fun q z y => hap q y z) hk
              have hn1 : nOK (((mX5_count (g_6.2) 7)).2 0 0 2) := count_n (S := (g_6.2)) _ (by assumption)
              refine kGen (mX5_count (g_6.2) 7) (fun g_8 hg_8 => ?_)
              rw [hg_8] at hE hY hn1 ⊢
              try dsimp only at hE
              refine lv_iload hx hb dL_tells_504 (lv_at hl 1 rfl) ?_
              refine lv_icmp_ne (tgt := 536) hx hb dL_tells_506 (by decide) (fun c_9 => ?_) (fun c_9 => ?_)
              · replace hE := hE.trans (if_neg c_9)
                refine lv_iconst (v := 0) hx hb dL_tells_536 (by decide) ?_
                subst R
                exact W.zret (v := 0) (ty := .boolean) hx hb hr rfl (fun t ht hW => ⟨rfl, by rw [ht]; exact hY, hS.F ht⟩) hS.2.2 dL_tells_537
              · replace hE := hE.trans (if_pos c_9)
                refine lv_aload_n hx hb dL_tells_509 rfl (lv_at hl 4 rfl) ?_
                refine lv_bipush (v := 8) hx hb dL_tells_510 (by decide) ?_
                refine kCallYi (va_runV (As := [.int 8]) (rest := []) ⟨hx, hb, hml, hown, hts⟩ (c_X5_count l E ad (g_8.2) hs 8 (by assumption) _ rfl) (cwV 1 hts gL_tells_X5_count rfl rfl rfl (by decide +kernel) ⟨Nat.le_of_ble_eq_true rfl, Nat.le_of_ble_eq_true rfl⟩) (kPreYV hK hY.2.1 hY (q0 := 0) rfl rfl) rfl rfl hl.1 rfl (lv_room (Nat.le_of_ble_eq_true rfl)) dL_tells_512 ⟨Nat.le_of_ble_eq_true rfl, Nat.le_of_ble_eq_true rfl⟩) hS (fun _ h => h) (fun H1 locs1 hY _ hk hS => ?_)
                have hR := kP_kept hR (dR (fun i j h1 h2 _ => by omega) _) (fun q z y => hap q y z) hk
                have hn1 : nOK (((mX5_count (g_8.2) 8)).2 0 0 2) := count_n (S := (g_8.2)) _ (by assumption)
                refine kGen (mX5_count (g_8.2) 8) (fun g_10 hg_10 => ?_)
                rw [hg_10] at hE hY hn1 ⊢
                try dsimp only at hE
                refine lv_iload_n hx hb dL_tells_515 rfl (lv_at hl 2 rfl) ?_
                refine lv_icmp_ne (tgt := 536) hx hb dL_tells_516 (by decide) (fun c_11 => ?_) (fun c_11 => ?_)
                · replace hE := hE.trans (if_neg c_11)
                  refine lv_iconst (v := 0) hx hb dL_tells_536 (by decide) ?_
                  subst R
                  exact W.zret (v := 0) (ty := .boolean) hx hb hr rfl (fun t ht hW => ⟨rfl, by rw [ht]; exact hY, hS.F ht⟩) hS.2.2 dL_tells_537
                · replace hE := hE.trans (if_pos c_11)
                  refine lv_aload_n hx hb dL_tells_519 rfl (lv_at hl 4 rfl) ?_
                  refine lv_aload_n hx hb dL_tells_520 rfl (lv_at hl 5 rfl) ?_
                  refine lv_bipush (v := 49) hx hb dL_tells_521 (by decide) ?_
                  refine va_iald (D := E.1) hx hb hK.1 hR 0 0 rfl rfl (vp_in_nI (n := 49) (by decide) (by decide)) dL_tells_523 ?_
                  refine W.eq (g2 := F0 m 524 ls [.int (r 0 49), .ref (ad 80)]) rfl ?_
                  refine lv_iconst (v := 0) hx hb dL_tells_524 (by decide) ?_
                  refine kCallRi (va_runV (As := [.int (r 0 49), .int 0]) (rest := []) ⟨hx, hb, hml, hown, hts⟩ (c_X5_of l E ad (g_10.2) hs (r 0 49) 0 (by assumption) _ rfl) (cwV 2 hts gL_tells_X5_of rfl rfl rfl (by decide +kernel) ⟨Nat.le_of_ble_eq_true rfl, Nat.le_of_ble_eq_true rfl⟩) (kPreYV hK hY.2.1 hY (q0 := 0) rfl rfl) rfl rfl hl.1 rfl (lv_room (Nat.le_of_ble_eq_true rfl)) dL_tells_525 ⟨Nat.le_of_ble_eq_true rfl, Nat.le_of_ble_eq_true rfl⟩) ?_
                  refine lv_iconst (v := (-1)) hx hb dL_tells_528 (by decide) ?_
                  refine lv_icmp_ne (tgt := 536) hx hb dL_tells_529 (by decide) (fun c_12 => ?_) (fun c_12 => ?_)
                  · replace hE := hE.trans (if_neg c_12)
                    refine lv_iconst (v := 0) hx hb dL_tells_536 (by decide) ?_
                    subst R
                    exact W.zret (v := 0) (ty := .boolean) hx hb hr rfl (fun t ht hW => ⟨rfl, by rw [ht]; exact hY, hS.F ht⟩) hS.2.2 dL_tells_537
                  · replace hE := hE.trans (if_pos c_12)
                    refine lv_iconst (v := 1) hx hb dL_tells_532 (by decide) ?_
                    refine lv_goto (tgt := 537) hx hb dL_tells_533 (by decide) ?_
                    subst R
                    exact W.zret (v := 1) (ty := .boolean) hx hb hr rfl (fun t ht hW => ⟨rfl, by rw [ht]; exact hY, hS.F ht⟩) hS.2.2 dL_tells_537
      · replace hE := hE.trans (if_neg c_1)
        have hbc_1 : i10 < 12 := nOK.lt (by assumption) (by omega) c_1
        refine lv_iconst (v := 0) hx hb dL_tells_19 (by decide) ?_
        refine lv_istore (lv' := [(6, .int 0), (5, .int (nI i10)), (4, .int x10_4), (3, .int x10_3), (2, .int x10_2), (0, .ref (ad 80)), (1, .ref (a 0))]) hx hb dL_tells_20 hl (by decide) rfl (fun ls hl => ?_)
        refine lv_iconst (v := 0) hx hb dL_tells_22 (by decide) ?_
        refine lv_istore (lv' := [(7, .int 0), (6, .int 0), (5, .int (nI i10)), (4, .int x10_4), (3, .int x10_3), (2, .int x10_2), (0, .ref (ad 80)), (1, .ref (a 0))]) hx hb dL_tells_23 hl (by decide) rfl (fun ls hl => ?_)
        refine lv_iconst (v := 0) hx hb dL_tells_25 (by decide) ?_
        refine lv_istore (lv' := [(8, .int 0), (7, .int 0), (6, .int 0), (5, .int (nI i10)), (4, .int x10_4), (3, .int x10_3), (2, .int x10_2), (0, .ref (ad 80)), (1, .ref (a 0))]) hx hb dL_tells_26 hl (by decide) rfl (fun ls hl => ?_)
        refine lv_iconst (v := 0) hx hb dL_tells_28 (by decide) ?_
        refine lv_istore (lv' := [(9, .int 0), (8, .int 0), (7, .int 0), (6, .int 0), (5, .int (nI i10)), (4, .int x10_4), (3, .int x10_3), (2, .int x10_2), (0, .ref (ad 80)), (1, .ref (a 0))]) hx hb dL_tells_29 hl (by decide) rfl (fun ls hl => ?_)
        refine lv_iconst (v := 0) hx hb dL_tells_31 (by decide) ?_
        refine lv_istore (lv' := [(10, .int 0), (9, .int 0), (8, .int 0), (7, .int 0), (6, .int 0), (5, .int (nI i10)), (4, .int x10_4), (3, .int x10_3), (2, .int x10_2), (0, .ref (ad 80)), (1, .ref (a 0))]) hx hb dL_tells_32 hl (by decide) rfl (fun ls hl => ?_)
        have lp34 : ∀ (n34 : Nat) (x34_6 : Int32) (x34_7 : Int32) (x34_8 : Int32) (x34_9 : Int32) (i34 : Nat), (12 < i34 + n34) → (i34 ≤ 12) → ∀ ls : Array Slot, lv_has ls 14 [(10, .int (nI i34)), (9, .int x34_9), (8, .int x34_8), (7, .int x34_7), (6, .int x34_6), (5, .int (nI i10)), (4, .int x10_4), (3, .int x10_3), (2, .int x10_2), (0, .ref (ad 80)), (1, .ref (a 0))] → R = mL_tells_L34 S r x10_2 x10_3 x10_4 i10 (mL_tells_K34 S r x10_2 x10_3 x10_4 i10 (mL_tells_L10 S r n10)) n34 x34_6 x34_7 x34_8 x34_9 i34 → W p l e ({ frames := 6, cells := 0, slots := 0, locals := 138 }) s m ([.ref (ad 80), .ref (a 0)] : List Value).toArray below meth c s.heap [] 0 0 (MQ below (kYi E R.1 ad R.2) ([.ref (ad 80), .ref (a 0)] : List Value).toArray s 0 0 (kA ad 90)) (F0 m 34 ls []) := by
          clear hE
          intro n34
          induction n34 with
          | zero =>
            intro x34_6 x34_7 x34_8 x34_9 i34 hm34 hi34 ls hl hE
            exact absurd hm34 (by omega)
          | succ n34 ih34 =>
            intro x34_6 x34_7 x34_8 x34_9 i34 hm34 hi34 ls hl hE
            replace hE := hE.trans mL_tells_L34_s
            refine lv_iload hx hb dL_tells_34 (lv_at hl 0 rfl) ?_
            refine lv_aload_n hx hb dL_tells_36 rfl (lv_at hl 10 rfl) ?_
            refine lv_bipush (v := 49) hx hb dL_tells_37 (by decide) ?_
            refine va_iald (D := E.1) hx hb hK.1 hR 0 0 rfl rfl (vp_in_nI (n := 49) (by decide) (by decide)) dL_tells_39 ?_
            refine W.eq (g2 := F0 m 40 ls [.int (r 0 49), .int (nI i34)]) rfl ?_
            refine lv_icmp_ge (tgt := 217) hx hb dL_tells_40 (by decide) (fun c_13 => ?_) (fun c_13 => ?_)
            · replace hE := hE.trans (if_pos c_13)
              replace hE := hE.trans mL_tells_K34_s
              refine lv_iload_n hx hb dL_tells_217 rfl (lv_at hl 8 rfl) ?_
              refine lv_iload hx hb dL_tells_218 (lv_at hl 2 rfl) ?_
              refine lv_iadd hx hb dL_tells_220 ?_
              refine lv_istore_n (lv' := [(2, .int (x10_2 + x34_8)), (10, .int (nI i34)), (9, .int x34_9), (8, .int x34_8), (7, .int x34_7), (6, .int x34_6), (5, .int (nI i10)), (4, .int x10_4), (3, .int x10_3), (0, .ref (ad 80)), (1, .ref (a 0))]) hx hb dL_tells_221 rfl hl (by decide) rfl (fun ls hl => ?_)
              refine lv_iload_n hx hb dL_tells_222 rfl (lv_at hl 8 rfl) ?_
              refine lv_iload hx hb dL_tells_223 (lv_at hl 3 rfl) ?_
              refine lv_iload hx hb dL_tells_225 (lv_at hl 2 rfl) ?_
              refine lv_imul hx hb dL_tells_227 ?_
              refine lv_iadd hx hb dL_tells_228 ?_
              refine lv_istore_n (lv' := [(3, .int (x10_3 + (x34_8 * x34_9))), (2, .int (x10_2 + x34_8)), (10, .int (nI i34)), (9, .int x34_9), (8, .int x34_8), (7, .int x34_7), (6, .int x34_6), (5, .int (nI i10)), (4, .int x10_4), (0, .ref (ad 80)), (1, .ref (a 0))]) hx hb dL_tells_229 rfl hl (by decide) rfl (fun ls hl => ?_)
              refine lv_iload hx hb dL_tells_230 (lv_at hl 8 rfl) ?_
              refine lv_iload hx hb dL_tells_232 (lv_at hl 4 rfl) ?_
              refine lv_iload hx hb dL_tells_234 (lv_at hl 3 rfl) ?_
              refine lv_imul hx hb dL_tells_236 ?_
              refine lv_if_le (tgt := 247) hx hb dL_tells_237 (by decide) (fun c_14 => ?_) (fun c_14 => ?_)
              · replace hE := hE.trans (if_pos c_14)
                refine lv_iconst (v := 0) hx hb dL_tells_247 (by decide) ?_
                refine lv_ior hx hb dL_tells_248 ?_
                refine lv_istore (lv' := [(4, .int (x10_4 ||| 0)), (3, .int (x10_3 + (x34_8 * x34_9))), (2, .int (x10_2 + x34_8)), (10, .int (nI i34)), (9, .int x34_9), (8, .int x34_8), (7, .int x34_7), (6, .int x34_6), (5, .int (nI i10)), (0, .ref (ad 80)), (1, .ref (a 0))]) hx hb dL_tells_249 hl (by decide) rfl (fun ls hl => ?_)
                refine lv_aload_n hx hb dL_tells_251 rfl (lv_at hl 10 rfl) ?_
                refine lv_bipush (v := 12) hx hb dL_tells_252 (by decide) ?_
                refine lv_iload hx hb dL_tells_254 (lv_at hl 8 rfl) ?_
                refine lv_iadd hx hb dL_tells_256 ?_
                refine va_iald (D := E.1) hx hb hK.1 hR 0 0 rfl rfl (rIn 12 (by decide) (by first | assumption | exact tOK.nI (by omega))) dL_tells_257 ?_
                refine lv_if_ge (tgt := 265) hx hb dL_tells_258 (by decide) (fun c_15 => ?_) (fun c_15 => ?_)
                · replace hE := hE.trans (if_pos c_15)
                  refine lv_aload_n hx hb dL_tells_265 rfl (lv_at hl 10 rfl) ?_
                  refine lv_bipush (v := 12) hx hb dL_tells_266 (by decide) ?_
                  refine lv_iload hx hb dL_tells_268 (lv_at hl 8 rfl) ?_
                  refine lv_iadd hx hb dL_tells_270 ?_
                  refine va_iald (D := E.1) hx hb hK.1 hR 0 0 rfl rfl (rIn 12 (by decide) (by first | assumption | exact tOK.nI (by omega))) dL_tells_271 ?_
                  refine lv_if_le (tgt := 279) hx hb dL_tells_272 (by decide) (fun c_16 => ?_) (fun c_16 => ?_)
                  · replace hE := hE.trans (if_pos c_16)
                    refine lv_iconst (v := 0) hx hb dL_tells_279 (by decide) ?_
                    refine lv_istore (lv' := [(10, .int 0), (4, .int (x10_4 ||| 0)), (3, .int (x10_3 + (x34_8 * x34_9))), (2, .int (x10_2 + x34_8)), (9, .int x34_9), (8, .int x34_8), (7, .int x34_7), (6, .int x34_6), (5, .int (nI i10)), (0, .ref (ad 80)), (1, .ref (a 0))]) hx hb dL_tells_280 hl (by decide) rfl (fun ls hl => ?_)
                    refine lv_aload_n hx hb dL_tells_282 rfl (lv_at hl 9 rfl) ?_
                    refine lv_iload hx hb dL_tells_283 (lv_at hl 8 rfl) ?_
                    refine lv_iconst (v := 0) hx hb dL_tells_285 (by decide) ?_
                    refine kCallRi (va_runV (As := [.int (nI i10), .int 0]) (rest := []) ⟨hx, hb, hml, hown, hts⟩ (c_X5_of l E ad S hs (nI i10) 0 (by assumption) _ rfl) (cwV 2 hts gL_tells_X5_of rfl rfl rfl (by decide +kernel) ⟨Nat.le_of_ble_eq_true rfl, Nat.le_of_ble_eq_true rfl⟩) (kPreYV hK hY.2.1 hY (q0 := 0) rfl rfl) rfl rfl hl.1 rfl (lv_room (Nat.le_of_ble_eq_true rfl)) dL_tells_286 ⟨Nat.le_of_ble_eq_true rfl, Nat.le_of_ble_eq_true rfl⟩) ?_
                    refine lv_iload hx hb dL_tells_289 (lv_at hl 0 rfl) ?_
                    refine lv_icmp_ne (tgt := 416) hx hb dL_tells_291 (by decide) (fun c_17 => ?_) (fun c_17 => ?_)
                    · replace hE := hE.trans (if_neg c_17)
                      refine lv_iconst (v := 0) hx hb dL_tells_416 (by decide) ?_
                      refine lv_istore (lv' := [(11, .int 0), (10, .int 0), (4, .int (x10_4 ||| 0)), (3, .int (x10_3 + (x34_8 * x34_9))), (2, .int (x10_2 + x34_8)), (9, .int x34_9), (8, .int x34_8), (7, .int x34_7), (6, .int x34_6), (5, .int (nI i10)), (0, .ref (ad 80)), (1, .ref (a 0))]) hx hb dL_tells_417 hl (by decide) rfl (fun ls hl => ?_)
                      refine lv_iload hx hb dL_tells_419 (lv_at hl 0 rfl) ?_
                      refine lv_if_eq (tgt := 456) hx hb dL_tells_421 (by decide) (fun _ => ?_) (fun c => absurd (by decide) c)
                      refine lv_iconst (v := 0) hx hb dL_tells_456 (by decide) ?_
                      subst R
                      exact W.zret (v := 0) (ty := .boolean) hx hb hr rfl (fun t ht hW => ⟨rfl, by rw [ht]; exact hY, hS.F ht⟩) hS.2.2 dL_tells_457
                    · replace hE := hE.trans (if_pos c_17)
                      refine lv_aload_n hx hb dL_tells_294 rfl (lv_at hl 9 rfl) ?_
                      refine lv_iload hx hb dL_tells_295 (lv_at hl 8 rfl) ?_
                      refine lv_iconst (v := 1) hx hb dL_tells_297 (by decide) ?_
                      refine kCallRi (va_runV (As := [.int (nI i10), .int 1]) (rest := []) ⟨hx, hb, hml, hown, hts⟩ (c_X5_of l E ad S hs (nI i10) 1 (by assumption) _ rfl) (cwV 2 hts gL_tells_X5_of rfl rfl rfl (by decide +kernel) ⟨Nat.le_of_ble_eq_true rfl, Nat.le_of_ble_eq_true rfl⟩) (kPreYV hK hY.2.1 hY (q0 := 0) rfl rfl) rfl rfl hl.1 rfl (lv_room (Nat.le_of_ble_eq_true rfl)) dL_tells_298 ⟨Nat.le_of_ble_eq_true rfl, Nat.le_of_ble_eq_true rfl⟩) ?_
                      refine lv_aload_n hx hb dL_tells_301 rfl (lv_at hl 10 rfl) ?_
                      refine lv_iload hx hb dL_tells_302 (lv_at hl 8 rfl) ?_
                      refine va_iald (D := E.1) hx hb hK.1 hR 0 0 rfl rfl (rIn0 (by first | assumption | exact tOK.nI (by omega))) dL_tells_304 ?_
                      refine lv_icmp_ne (tgt := 416) hx hb dL_tells_305 (by decide) (fun c_18 => ?_) (fun c_18 => ?_)
                      · replace hE := hE.trans (if_neg c_18)
                        refine lv_iconst (v := 0) hx hb dL_tells_416 (by decide) ?_
                        refine lv_istore (lv' := [(11, .int 0), (10, .int 0), (4, .int (x10_4 ||| 0)), (3, .int (x10_3 + (x34_8 * x34_9))), (2, .int (x10_2 + x34_8)), (9, .int x34_9), (8, .int x34_8), (7, .int x34_7), (6, .int x34_6), (5, .int (nI i10)), (0, .ref (ad 80)), (1, .ref (a 0))]) hx hb dL_tells_417 hl (by decide) rfl (fun ls hl => ?_)
                        refine lv_iload hx hb dL_tells_419 (lv_at hl 0 rfl) ?_
                        refine lv_if_eq (tgt := 456) hx hb dL_tells_421 (by decide) (fun _ => ?_) (fun c => absurd (by decide) c)
                        refine lv_iconst (v := 0) hx hb dL_tells_456 (by decide) ?_
                        subst R
                        exact W.zret (v := 0) (ty := .boolean) hx hb hr rfl (fun t ht hW => ⟨rfl, by rw [ht]; exact hY, hS.F ht⟩) hS.2.2 dL_tells_457
                      · replace hE := hE.trans (if_pos c_18)
                        refine lv_aload_n hx hb dL_tells_308 rfl (lv_at hl 9 rfl) ?_
                        refine lv_iload hx hb dL_tells_309 (lv_at hl 8 rfl) ?_
                        refine lv_iconst (v := 2) hx hb dL_tells_311 (by decide) ?_
                        refine kCallRi (va_runV (As := [.int (nI i10), .int 2]) (rest := []) ⟨hx, hb, hml, hown, hts⟩ (c_X5_of l E ad S hs (nI i10) 2 (by assumption) _ rfl) (cwV 2 hts gL_tells_X5_of rfl rfl rfl (by decide +kernel) ⟨Nat.le_of_ble_eq_true rfl, Nat.le_of_ble_eq_true rfl⟩) (kPreYV hK hY.2.1 hY (q0 := 0) rfl rfl) rfl rfl hl.1 rfl (lv_room (Nat.le_of_ble_eq_true rfl)) dL_tells_312 ⟨Nat.le_of_ble_eq_true rfl, Nat.le_of_ble_eq_true rfl⟩) ?_
                        refine lv_iload hx hb dL_tells_315 (lv_at hl 0 rfl) ?_
                        refine lv_iconst (v := 1) hx hb dL_tells_317 (by decide) ?_
                        refine lv_icmp_ne (tgt := 331) hx hb dL_tells_318 (by decide) (fun _ => ?_) (fun c => absurd c (by decide))
                        refine lv_bipush (v := (-6)) hx hb dL_tells_331 (by decide) ?_
                        refine lv_icmp_ne (tgt := 416) hx hb dL_tells_333 (by decide) (fun c_19 => ?_) (fun c_19 => ?_)
                        · replace hE := hE.trans (if_neg c_19)
                          refine lv_iconst (v := 0) hx hb dL_tells_416 (by decide) ?_
                          refine lv_istore (lv' := [(11, .int 0), (10, .int 0), (4, .int (x10_4 ||| 0)), (3, .int (x10_3 + (x34_8 * x34_9))), (2, .int (x10_2 + x34_8)), (9, .int x34_9), (8, .int x34_8), (7, .int x34_7), (6, .int x34_6), (5, .int (nI i10)), (0, .ref (ad 80)), (1, .ref (a 0))]) hx hb dL_tells_417 hl (by decide) rfl (fun ls hl => ?_)
                          refine lv_iload hx hb dL_tells_419 (lv_at hl 0 rfl) ?_
                          refine lv_if_eq (tgt := 456) hx hb dL_tells_421 (by decide) (fun _ => ?_) (fun c => absurd (by decide) c)
                          refine lv_iconst (v := 0) hx hb dL_tells_456 (by decide) ?_
                          subst R
                          exact W.zret (v := 0) (ty := .boolean) hx hb hr rfl (fun t ht hW => ⟨rfl, by rw [ht]; exact hY, hS.F ht⟩) hS.2.2 dL_tells_457
                        · replace hE := hE.trans (if_pos c_19)
                          refine lv_aload_n hx hb dL_tells_336 rfl (lv_at hl 9 rfl) ?_
                          refine lv_iload hx hb dL_tells_337 (lv_at hl 8 rfl) ?_
                          refine lv_iconst (v := 3) hx hb dL_tells_339 (by decide) ?_
                          refine kCallRi (va_runV (As := [.int (nI i10), .int 3]) (rest := []) ⟨hx, hb, hml, hown, hts⟩ (c_X5_of l E ad S hs (nI i10) 3 (by assumption) _ rfl) (cwV 2 hts gL_tells_X5_of rfl rfl rfl (by decide +kernel) ⟨Nat.le_of_ble_eq_true rfl, Nat.le_of_ble_eq_true rfl⟩) (kPreYV hK hY.2.1 hY (q0 := 0) rfl rfl) rfl rfl hl.1 rfl (lv_room (Nat.le_of_ble_eq_true rfl)) dL_tells_340 ⟨Nat.le_of_ble_eq_true rfl, Nat.le_of_ble_eq_true rfl⟩) ?_
                          refine lv_aload_n hx hb dL_tells_343 rfl (lv_at hl 10 rfl) ?_
                          refine lv_bipush (v := 24) hx hb dL_tells_344 (by decide) ?_
                          refine lv_iload hx hb dL_tells_346 (lv_at hl 8 rfl) ?_
                          refine lv_iadd hx hb dL_tells_348 ?_
                          refine va_iald (D := E.1) hx hb hK.1 hR 0 0 rfl rfl (rIn 24 (by decide) (by first | assumption | exact tOK.nI (by omega))) dL_tells_349 ?_
                          refine lv_icmp_ne (tgt := 416) hx hb dL_tells_350 (by decide) (fun c_20 => ?_) (fun c_20 => ?_)
                          · replace hE := hE.trans (if_neg c_20)
                            refine lv_iconst (v := 0) hx hb dL_tells_416 (by decide) ?_
                            refine lv_istore (lv' := [(11, .int 0), (10, .int 0), (4, .int (x10_4 ||| 0)), (3, .int (x10_3 + (x34_8 * x34_9))), (2, .int (x10_2 + x34_8)), (9, .int x34_9), (8, .int x34_8), (7, .int x34_7), (6, .int x34_6), (5, .int (nI i10)), (0, .ref (ad 80)), (1, .ref (a 0))]) hx hb dL_tells_417 hl (by decide) rfl (fun ls hl => ?_)
                            refine lv_iload hx hb dL_tells_419 (lv_at hl 0 rfl) ?_
                            refine lv_if_eq (tgt := 456) hx hb dL_tells_421 (by decide) (fun _ => ?_) (fun c => absurd (by decide) c)
                            refine lv_iconst (v := 0) hx hb dL_tells_456 (by decide) ?_
                            subst R
                            exact W.zret (v := 0) (ty := .boolean) hx hb hr rfl (fun t ht hW => ⟨rfl, by rw [ht]; exact hY, hS.F ht⟩) hS.2.2 dL_tells_457
                          · replace hE := hE.trans (if_pos c_20)
                            refine lv_aload_n hx hb dL_tells_353 rfl (lv_at hl 9 rfl) ?_
                            refine lv_iload hx hb dL_tells_354 (lv_at hl 8 rfl) ?_
                            refine lv_iconst (v := 4) hx hb dL_tells_356 (by decide) ?_
                            refine kCallRi (va_runV (As := [.int (nI i10), .int 4]) (rest := []) ⟨hx, hb, hml, hown, hts⟩ (c_X5_of l E ad S hs (nI i10) 4 (by assumption) _ rfl) (cwV 2 hts gL_tells_X5_of rfl rfl rfl (by decide +kernel) ⟨Nat.le_of_ble_eq_true rfl, Nat.le_of_ble_eq_true rfl⟩) (kPreYV hK hY.2.1 hY (q0 := 0) rfl rfl) rfl rfl hl.1 rfl (lv_room (Nat.le_of_ble_eq_true rfl)) dL_tells_357 ⟨Nat.le_of_ble_eq_true rfl, Nat.le_of_ble_eq_true rfl⟩) ?_
                            refine lv_aload_n hx hb dL_tells_360 rfl (lv_at hl 10 rfl) ?_
                            refine lv_bipush (v := 36) hx hb dL_tells_361 (by decide) ?_
                            refine lv_iload hx hb dL_tells_363 (lv_at hl 8 rfl) ?_
                            refine lv_iadd hx hb dL_tells_365 ?_
                            refine va_iald (D := E.1) hx hb hK.1 hR 0 0 rfl rfl (rIn 36 (by decide) (by first | assumption | exact tOK.nI (by omega))) dL_tells_366 ?_
                            refine lv_icmp_ne (tgt := 416) hx hb dL_tells_367 (by decide) (fun c_21 => ?_) (fun c_21 => ?_)
                            · replace hE := hE.trans (if_neg c_21)
                              refine lv_iconst (v := 0) hx hb dL_tells_416 (by decide) ?_
                              refine lv_istore (lv' := [(11, .int 0), (10, .int 0), (4, .int (x10_4 ||| 0)), (3, .int (x10_3 + (x34_8 * x34_9))), (2, .int (x10_2 + x34_8)), (9, .int x34_9), (8, .int x34_8), (7, .int x34_7), (6, .int x34_6), (5, .int (nI i10)), (0, .ref (ad 80)), (1, .ref (a 0))]) hx hb dL_tells_417 hl (by decide) rfl (fun ls hl => ?_)
                              refine lv_iload hx hb dL_tells_419 (lv_at hl 0 rfl) ?_
                              refine lv_if_eq (tgt := 456) hx hb dL_tells_421 (by decide) (fun _ => ?_) (fun c => absurd (by decide) c)
                              refine lv_iconst (v := 0) hx hb dL_tells_456 (by decide) ?_
                              subst R
                              exact W.zret (v := 0) (ty := .boolean) hx hb hr rfl (fun t ht hW => ⟨rfl, by rw [ht]; exact hY, hS.F ht⟩) hS.2.2 dL_tells_457
                            · replace hE := hE.trans (if_pos c_21)
                              refine lv_aload_n hx hb dL_tells_370 rfl (lv_at hl 9 rfl) ?_
                              refine lv_iload hx hb dL_tells_371 (lv_at hl 8 rfl) ?_
                              refine lv_iconst (v := 5) hx hb dL_tells_373 (by decide) ?_
                              refine kCallRi (va_runV (As := [.int (nI i10), .int 5]) (rest := []) ⟨hx, hb, hml, hown, hts⟩ (c_X5_of l E ad S hs (nI i10) 5 (by assumption) _ rfl) (cwV 2 hts gL_tells_X5_of rfl rfl rfl (by decide +kernel) ⟨Nat.le_of_ble_eq_true rfl, Nat.le_of_ble_eq_true rfl⟩) (kPreYV hK hY.2.1 hY (q0 := 0) rfl rfl) rfl rfl hl.1 rfl (lv_room (Nat.le_of_ble_eq_true rfl)) dL_tells_374 ⟨Nat.le_of_ble_eq_true rfl, Nat.le_of_ble_eq_true rfl⟩) ?_
                              refine lv_iload hx hb dL_tells_377 (lv_at hl 7 rfl) ?_
                              refine lv_icmp_ne (tgt := 416) hx hb dL_tells_379 (by decide) (fun c_22 => ?_) (fun c_22 => ?_)
                              · replace hE := hE.trans (if_neg c_22)
                                refine lv_iconst (v := 0) hx hb dL_tells_416 (by decide) ?_
                                refine lv_istore (lv' := [(11, .int 0), (10, .int 0), (4, .int (x10_4 ||| 0)), (3, .int (x10_3 + (x34_8 * x34_9))), (2, .int (x10_2 + x34_8)), (9, .int x34_9), (8, .int x34_8), (7, .int x34_7), (6, .int x34_6), (5, .int (nI i10)), (0, .ref (ad 80)), (1, .ref (a 0))]) hx hb dL_tells_417 hl (by decide) rfl (fun ls hl => ?_)
                                refine lv_iload hx hb dL_tells_419 (lv_at hl 0 rfl) ?_
                                refine lv_if_eq (tgt := 456) hx hb dL_tells_421 (by decide) (fun _ => ?_) (fun c => absurd (by decide) c)
                                refine lv_iconst (v := 0) hx hb dL_tells_456 (by decide) ?_
                                subst R
                                exact W.zret (v := 0) (ty := .boolean) hx hb hr rfl (fun t ht hW => ⟨rfl, by rw [ht]; exact hY, hS.F ht⟩) hS.2.2 dL_tells_457
                              · replace hE := hE.trans (if_pos c_22)
                                refine lv_aload_n hx hb dL_tells_382 rfl (lv_at hl 9 rfl) ?_
                                refine lv_iload hx hb dL_tells_383 (lv_at hl 8 rfl) ?_
                                refine lv_bipush (v := 6) hx hb dL_tells_385 (by decide) ?_
                                refine kCallRi (va_runV (As := [.int (nI i10), .int 6]) (rest := []) ⟨hx, hb, hml, hown, hts⟩ (c_X5_of l E ad S hs (nI i10) 6 (by assumption) _ rfl) (cwV 2 hts gL_tells_X5_of rfl rfl rfl (by decide +kernel) ⟨Nat.le_of_ble_eq_true rfl, Nat.le_of_ble_eq_true rfl⟩) (kPreYV hK hY.2.1 hY (q0 := 0) rfl rfl) rfl rfl hl.1 rfl (lv_room (Nat.le_of_ble_eq_true rfl)) dL_tells_387 ⟨Nat.le_of_ble_eq_true rfl, Nat.le_of_ble_eq_true rfl⟩) ?_
                                refine lv_iload hx hb dL_tells_390 (lv_at hl 6 rfl) ?_
                                refine lv_icmp_ne (tgt := 416) hx hb dL_tells_392 (by decide) (fun c_23 => ?_) (fun c_23 => ?_)
                                · replace hE := hE.trans (if_neg c_23)
                                  refine lv_iconst (v := 0) hx hb dL_tells_416 (by decide) ?_
                                  refine lv_istore (lv' := [(11, .int 0), (10, .int 0), (4, .int (x10_4 ||| 0)), (3, .int (x10_3 + (x34_8 * x34_9))), (2, .int (x10_2 + x34_8)), (9, .int x34_9), (8, .int x34_8), (7, .int x34_7), (6, .int x34_6), (5, .int (nI i10)), (0, .ref (ad 80)), (1, .ref (a 0))]) hx hb dL_tells_417 hl (by decide) rfl (fun ls hl => ?_)
                                  refine lv_iload hx hb dL_tells_419 (lv_at hl 0 rfl) ?_
                                  refine lv_if_eq (tgt := 456) hx hb dL_tells_421 (by decide) (fun _ => ?_) (fun c => absurd (by decide) c)
                                  refine lv_iconst (v := 0) hx hb dL_tells_456 (by decide) ?_
                                  subst R
                                  exact W.zret (v := 0) (ty := .boolean) hx hb hr rfl (fun t ht hW => ⟨rfl, by rw [ht]; exact hY, hS.F ht⟩) hS.2.2 dL_tells_457
                                · replace hE := hE.trans (if_pos c_23)
                                  refine lv_aload_n hx hb dL_tells_395 rfl (lv_at hl 9 rfl) ?_
                                  refine lv_iload hx hb dL_tells_396 (lv_at hl 8 rfl) ?_
                                  refine lv_bipush (v := 8) hx hb dL_tells_398 (by decide) ?_
                                  refine kCallRi (va_runV (As := [.int (nI i10), .int 8]) (rest := []) ⟨hx, hb, hml, hown, hts⟩ (c_X5_of l E ad S hs (nI i10) 8 (by assumption) _ rfl) (cwV 2 hts gL_tells_X5_of rfl rfl rfl (by decide +kernel) ⟨Nat.le_of_ble_eq_true rfl, Nat.le_of_ble_eq_true rfl⟩) (kPreYV hK hY.2.1 hY (q0 := 0) rfl rfl) rfl rfl hl.1 rfl (lv_room (Nat.le_of_ble_eq_true rfl)) dL_tells_400 ⟨Nat.le_of_ble_eq_true rfl, Nat.le_of_ble_eq_true rfl⟩) ?_
                                  refine lv_aload_n hx hb dL_tells_403 rfl (lv_at hl 10 rfl) ?_
                                  refine lv_iload hx hb dL_tells_404 (lv_at hl 8 rfl) ?_
                                  refine kCallRi (va_runS (As := [.ref (a 0), .int (nI i10)]) (rest := [.int (mX5_of S (nI i10) 8)]) ⟨hx, hb, hml, hown, hts⟩ (c_L_safety l E a r (nI i10) (by first | assumption | exact tOK.nI (by omega)) (by first | assumption | exact tOK.nI (by omega)) _ rfl) (va_cwS 2 hts gL_tells_L_safety rfl rfl rfl (by decide +kernel) ⟨Nat.le_of_ble_eq_true rfl, Nat.le_of_ble_eq_true rfl⟩) (kPreS hK hR) rfl rfl hl.1 rfl (lv_room (Nat.le_of_ble_eq_true rfl)) dL_tells_406 ⟨Nat.le_of_ble_eq_true rfl, Nat.le_of_ble_eq_true rfl⟩) ?_
                                  refine lv_icmp_ne (tgt := 416) hx hb dL_tells_409 (by decide) (fun c_24 => ?_) (fun c_24 => ?_)
                                  · replace hE := hE.trans (if_neg c_24)
                                    refine lv_iconst (v := 0) hx hb dL_tells_416 (by decide) ?_
                                    refine lv_istore (lv' := [(11, .int 0), (10, .int 0), (4, .int (x10_4 ||| 0)), (3, .int (x10_3 + (x34_8 * x34_9))), (2, .int (x10_2 + x34_8)), (9, .int x34_9), (8, .int x34_8), (7, .int x34_7), (6, .int x34_6), (5, .int (nI i10)), (0, .ref (ad 80)), (1, .ref (a 0))]) hx hb dL_tells_417 hl (by decide) rfl (fun ls hl => ?_)
                                    refine lv_iload hx hb dL_tells_419 (lv_at hl 0 rfl) ?_
                                    refine lv_if_eq (tgt := 456) hx hb dL_tells_421 (by decide) (fun _ => ?_) (fun c => absurd (by decide) c)
                                    refine lv_iconst (v := 0) hx hb dL_tells_456 (by decide) ?_
                                    subst R
                                    exact W.zret (v := 0) (ty := .boolean) hx hb hr rfl (fun t ht hW => ⟨rfl, by rw [ht]; exact hY, hS.F ht⟩) hS.2.2 dL_tells_457
                                  · replace hE := hE.trans (if_pos c_24)
                                    refine lv_iconst (v := 1) hx hb dL_tells_412 (by decide) ?_
                                    refine lv_goto (tgt := 417) hx hb dL_tells_413 (by decide) ?_
                                    refine lv_istore (lv' := [(11, .int 1), (10, .int 0), (4, .int (x10_4 ||| 0)), (3, .int (x10_3 + (x34_8 * x34_9))), (2, .int (x10_2 + x34_8)), (9, .int x34_9), (8, .int x34_8), (7, .int x34_7), (6, .int x34_6), (5, .int (nI i10)), (0, .ref (ad 80)), (1, .ref (a 0))]) hx hb dL_tells_417 hl (by decide) rfl (fun ls hl => ?_)
                                    refine lv_iload hx hb dL_tells_419 (lv_at hl 0 rfl) ?_
                                    refine lv_if_eq (tgt := 456) hx hb dL_tells_421 (by decide) (fun c => absurd c (by decide)) (fun _ => ?_)
                                    refine lv_aload_n hx hb dL_tells_424 rfl (lv_at hl 10 rfl) ?_
                                    refine lv_iload hx hb dL_tells_425 (lv_at hl 9 rfl) ?_
                                    refine lv_bipush (v := 7) hx hb dL_tells_427 (by decide) ?_
                                    refine kCallRi (va_runV (As := [.int (nI i10), .int 7]) (rest := []) ⟨hx, hb, hml, hown, hts⟩ (c_X5_of l E ad S hs (nI i10) 7 (by assumption) _ rfl) (cwV 2 hts gL_tells_X5_of rfl rfl rfl (by decide +kernel) ⟨Nat.le_of_ble_eq_true rfl, Nat.le_of_ble_eq_true rfl⟩) (kPreYV hK hY.2.1 hY (q0 := 0) rfl rfl) rfl rfl hl.1 rfl (lv_room (Nat.le_of_ble_eq_true rfl)) dL_tells_429 ⟨Nat.le_of_ble_eq_true rfl, Nat.le_of_ble_eq_true rfl⟩) ?_
                                    refine lv_bipush (v := (-6)) hx hb dL_tells_432 (by decide) ?_
                                    refine lv_icmp_ne (tgt := 441) hx hb dL_tells_434 (by decide) (fun c_25 => ?_) (fun c_25 => ?_)
                                    · replace hE := hE.trans (if_neg c_25)
                                      refine lv_iconst (v := 0) hx hb dL_tells_441 (by decide) ?_
                                      refine lv_iload hx hb dL_tells_442 (lv_at hl 1 rfl) ?_
                                      refine lv_iconst (v := 2) hx hb dL_tells_444 (by decide) ?_
                                      refine lv_icmp_ge (tgt := 452) hx hb dL_tells_445 (by decide) (fun c => absurd c (by decide)) (fun _ => ?_)
                                      refine lv_iconst (v := 1) hx hb dL_tells_448 (by decide) ?_
                                      refine lv_goto (tgt := 453) hx hb dL_tells_449 (by decide) ?_
                                      refine lv_icmp_eq (tgt := 458) hx hb dL_tells_453 (by decide) (fun c => absurd c (by decide)) (fun _ => ?_)
                                      refine lv_iconst (v := 0) hx hb dL_tells_456 (by decide) ?_
                                      subst R
                                      exact W.zret (v := 0) (ty := .boolean) hx hb hr rfl (fun t ht hW => ⟨rfl, by rw [ht]; exact hY, hS.F ht⟩) hS.2.2 dL_tells_457
                                    · replace hE := hE.trans (if_pos c_25)
                                      refine lv_iconst (v := 1) hx hb dL_tells_437 (by decide) ?_
                                      refine lv_goto (tgt := 442) hx hb dL_tells_438 (by decide) ?_
                                      refine lv_iload hx hb dL_tells_442 (lv_at hl 1 rfl) ?_
                                      refine lv_iconst (v := 2) hx hb dL_tells_444 (by decide) ?_
                                      refine lv_icmp_ge (tgt := 452) hx hb dL_tells_445 (by decide) (fun c => absurd c (by decide)) (fun _ => ?_)
                                      refine lv_iconst (v := 1) hx hb dL_tells_448 (by decide) ?_
                                      refine lv_goto (tgt := 453) hx hb dL_tells_449 (by decide) ?_
                                      refine lv_icmp_eq (tgt := 458) hx hb dL_tells_453 (by decide) (fun _ => ?_) (fun c => absurd (by decide) c)
                                      refine lv_iinc (v := (nI (i10 + 1))) (lv' := [(5, .int (nI (i10 + 1))), (11, .int 1), (10, .int 0), (4, .int (x10_4 ||| 0)), (3, .int (x10_3 + (x34_8 * x34_9))), (2, .int (x10_2 + x34_8)), (9, .int x34_9), (8, .int x34_8), (7, .int x34_7), (6, .int x34_6), (0, .ref (ad 80)), (1, .ref (a 0))]) hx hb dL_tells_458 hl (k := 9) rfl (nI_1 i10) (by decide) rfl (fun ls hl => ?_)
                                      refine lv_goto (tgt := 10) hx hb dL_tells_461 (by decide) ?_
                                      exact ih10 (x10_2 + x34_8) (x10_3 + (x34_8 * x34_9)) (x10_4 ||| 0) (i10 + 1) (by omega) (by omega) ls (lv_sub hl [0, 3, 4, 5, 10, 11] rfl) hE
                  · replace hE := hE.trans (if_neg c_16)
                    refine lv_iconst (v := 1) hx hb dL_tells_275 (by decide) ?_
                    refine lv_goto (tgt := 280) hx hb dL_tells_276 (by decide) ?_
                    refine lv_istore (lv' := [(10, .int 1), (4, .int (x10_4 ||| 0)), (3, .int (x10_3 + (x34_8 * x34_9))), (2, .int (x10_2 + x34_8)), (9, .int x34_9), (8, .int x34_8), (7, .int x34_7), (6, .int x34_6), (5, .int (nI i10)), (0, .ref (ad 80)), (1, .ref (a 0))]) hx hb dL_tells_280 hl (by decide) rfl (fun ls hl => ?_)
                    refine lv_aload_n hx hb dL_tells_282 rfl (lv_at hl 9 rfl) ?_
                    refine lv_iload hx hb dL_tells_283 (lv_at hl 8 rfl) ?_
                    refine lv_iconst (v := 0) hx hb dL_tells_285 (by decide) ?_
                    refine kCallRi (va_runV (As := [.int (nI i10), .int 0]) (rest := []) ⟨hx, hb, hml, hown, hts⟩ (c_X5_of l E ad S hs (nI i10) 0 (by assumption) _ rfl) (cwV 2 hts gL_tells_X5_of rfl rfl rfl (by decide +kernel) ⟨Nat.le_of_ble_eq_true rfl, Nat.le_of_ble_eq_true rfl⟩) (kPreYV hK hY.2.1 hY (q0 := 0) rfl rfl) rfl rfl hl.1 rfl (lv_room (Nat.le_of_ble_eq_true rfl)) dL_tells_286 ⟨Nat.le_of_ble_eq_true rfl, Nat.le_of_ble_eq_true rfl⟩) ?_
                    refine lv_iload hx hb dL_tells_289 (lv_at hl 0 rfl) ?_
                    refine lv_icmp_ne (tgt := 416) hx hb dL_tells_291 (by decide) (fun c_26 => ?_) (fun c_26 => ?_)
                    · replace hE := hE.trans (if_neg c_26)
                      refine lv_iconst (v := 0) hx hb dL_tells_416 (by decide) ?_
                      refine lv_istore (lv' := [(11, .int 0), (10, .int 1), (4, .int (x10_4 ||| 0)), (3, .int (x10_3 + (x34_8 * x34_9))), (2, .int (x10_2 + x34_8)), (9, .int x34_9), (8, .int x34_8), (7, .int x34_7), (6, .int x34_6), (5, .int (nI i10)), (0, .ref (ad 80)), (1, .ref (a 0))]) hx hb dL_tells_417 hl (by decide) rfl (fun ls hl => ?_)
                      refine lv_iload hx hb dL_tells_419 (lv_at hl 0 rfl) ?_
                      refine lv_if_eq (tgt := 456) hx hb dL_tells_421 (by decide) (fun _ => ?_) (fun c => absurd (by decide) c)
                      refine lv_iconst (v := 0) hx hb dL_tells_456 (by decide) ?_
                      subst R
                      exact W.zret (v := 0) (ty := .boolean) hx hb hr rfl (fun t ht hW => ⟨rfl, by rw [ht]; exact hY, hS.F ht⟩) hS.2.2 dL_tells_457
                    · replace hE := hE.trans (if_pos c_26)
                      refine lv_aload_n hx hb dL_tells_294 rfl (lv_at hl 9 rfl) ?_
                      refine lv_iload hx hb dL_tells_295 (lv_at hl 8 rfl) ?_
                      refine lv_iconst (v := 1) hx hb dL_tells_297 (by decide) ?_
                      refine kCallRi (va_runV (As := [.int (nI i10), .int 1]) (rest := []) ⟨hx, hb, hml, hown, hts⟩ (c_X5_of l E ad S hs (nI i10) 1 (by assumption) _ rfl) (cwV 2 hts gL_tells_X5_of rfl rfl rfl (by decide +kernel) ⟨Nat.le_of_ble_eq_true rfl, Nat.le_of_ble_eq_true rfl⟩) (kPreYV hK hY.2.1 hY (q0 := 0) rfl rfl) rfl rfl hl.1 rfl (lv_room (Nat.le_of_ble_eq_true rfl)) dL_tells_298 ⟨Nat.le_of_ble_eq_true rfl, Nat.le_of_ble_eq_true rfl⟩) ?_
                      refine lv_aload_n hx hb dL_tells_301 rfl (lv_at hl 10 rfl) ?_
                      refine lv_iload hx hb dL_tells_302 (lv_at hl 8 rfl) ?_
                      refine va_iald (D := E.1) hx hb hK.1 hR 0 0 rfl rfl (rIn0 (by first | assumption | exact tOK.nI (by omega))) dL_tells_304 ?_
                      refine lv_icmp_ne (tgt := 416) hx hb dL_tells_305 (by decide) (fun c_27 => ?_) (fun c_27 => ?_)
                      · replace hE := hE.trans (if_neg c_27)
                        refine lv_iconst (v := 0) hx hb dL_tells_416 (by decide) ?_
                        refine lv_istore (lv' := [(11, .int 0), (10, .int 1), (4, .int (x10_4 ||| 0)), (3, .int (x10_3 + (x34_8 * x34_9))), (2, .int (x10_2 + x34_8)), (9, .int x34_9), (8, .int x34_8), (7, .int x34_7), (6, .int x34_6), (5, .int (nI i10)), (0, .ref (ad 80)), (1, .ref (a 0))]) hx hb dL_tells_417 hl (by decide) rfl (fun ls hl => ?_)
                        refine lv_iload hx hb dL_tells_419 (lv_at hl 0 rfl) ?_
                        refine lv_if_eq (tgt := 456) hx hb dL_tells_421 (by decide) (fun _ => ?_) (fun c => absurd (by decide) c)
                        refine lv_iconst (v := 0) hx hb dL_tells_456 (by decide) ?_
                        subst R
                        exact W.zret (v := 0) (ty := .boolean) hx hb hr rfl (fun t ht hW => ⟨rfl, by rw [ht]; exact hY, hS.F ht⟩) hS.2.2 dL_tells_457
                      · replace hE := hE.trans (if_pos c_27)
                        refine lv_aload_n hx hb dL_tells_308 rfl (lv_at hl 9 rfl) ?_
                        refine lv_iload hx hb dL_tells_309 (lv_at hl 8 rfl) ?_
                        refine lv_iconst (v := 2) hx hb dL_tells_311 (by decide) ?_
                        refine kCallRi (va_runV (As := [.int (nI i10), .int 2]) (rest := []) ⟨hx, hb, hml, hown, hts⟩ (c_X5_of l E ad S hs (nI i10) 2 (by assumption) _ rfl) (cwV 2 hts gL_tells_X5_of rfl rfl rfl (by decide +kernel) ⟨Nat.le_of_ble_eq_true rfl, Nat.le_of_ble_eq_true rfl⟩) (kPreYV hK hY.2.1 hY (q0 := 0) rfl rfl) rfl rfl hl.1 rfl (lv_room (Nat.le_of_ble_eq_true rfl)) dL_tells_312 ⟨Nat.le_of_ble_eq_true rfl, Nat.le_of_ble_eq_true rfl⟩) ?_
                        refine lv_iload hx hb dL_tells_315 (lv_at hl 0 rfl) ?_
                        refine lv_iconst (v := 1) hx hb dL_tells_317 (by decide) ?_
                        refine lv_icmp_ne (tgt := 331) hx hb dL_tells_318 (by decide) (fun c => absurd rfl c) (fun _ => ?_)
                        refine lv_aload_n hx hb dL_tells_321 rfl (lv_at hl 10 rfl) ?_
                        refine lv_bipush (v := 12) hx hb dL_tells_322 (by decide) ?_
                        refine lv_iload hx hb dL_tells_324 (lv_at hl 8 rfl) ?_
                        refine lv_iadd hx hb dL_tells_326 ?_
                        refine va_iald (D := E.1) hx hb hK.1 hR 0 0 rfl rfl (rIn 12 (by decide) (by first | assumption | exact tOK.nI (by omega))) dL_tells_327 ?_
                        refine lv_goto (tgt := 333) hx hb dL_tells_328 (by decide) ?_
                        refine lv_icmp_ne (tgt := 416) hx hb dL_tells_333 (by decide) (fun c_28 => ?_) (fun c_28 => ?_)
                        · replace hE := hE.trans (if_neg c_28)
                          refine lv_iconst (v := 0) hx hb dL_tells_416 (by decide) ?_
                          refine lv_istore (lv' := [(11, .int 0), (10, .int 1), (4, .int (x10_4 ||| 0)), (3, .int (x10_3 + (x34_8 * x34_9))), (2, .int (x10_2 + x34_8)), (9, .int x34_9), (8, .int x34_8), (7, .int x34_7), (6, .int x34_6), (5, .int (nI i10)), (0, .ref (ad 80)), (1, .ref (a 0))]) hx hb dL_tells_417 hl (by decide) rfl (fun ls hl => ?_)
                          refine lv_iload hx hb dL_tells_419 (lv_at hl 0 rfl) ?_
                          refine lv_if_eq (tgt := 456) hx hb dL_tells_421 (by decide) (fun _ => ?_) (fun c => absurd (by decide) c)
                          refine lv_iconst (v := 0) hx hb dL_tells_456 (by decide) ?_
                          subst R
                          exact W.zret (v := 0) (ty := .boolean) hx hb hr rfl (fun t ht hW => ⟨rfl, by rw [ht]; exact hY, hS.F ht⟩) hS.2.2 dL_tells_457
                        · replace hE := hE.trans (if_pos c_28)
                          refine lv_aload_n hx hb dL_tells_336 rfl (lv_at hl 9 rfl) ?_
                          refine lv_iload hx hb dL_tells_337 (lv_at hl 8 rfl) ?_
                          refine lv_iconst (v := 3) hx hb dL_tells_339 (by decide) ?_
                          refine kCallRi (va_runV (As := [.int (nI i10), .int 3]) (rest := []) ⟨hx, hb, hml, hown, hts⟩ (c_X5_of l E ad S hs (nI i10) 3 (by assumption) _ rfl) (cwV 2 hts gL_tells_X5_of rfl rfl rfl (by decide +kernel) ⟨Nat.le_of_ble_eq_true rfl, Nat.le_of_ble_eq_true rfl⟩) (kPreYV hK hY.2.1 hY (q0 := 0) rfl rfl) rfl rfl hl.1 rfl (lv_room (Nat.le_of_ble_eq_true rfl)) dL_tells_340 ⟨Nat.le_of_ble_eq_true rfl, Nat.le_of_ble_eq_true rfl⟩) ?_
                          refine lv_aload_n hx hb dL_tells_343 rfl (lv_at hl 10 rfl) ?_
                          refine lv_bipush (v := 24) hx hb dL_tells_344 (by decide) ?_
                          refine lv_iload hx hb dL_tells_346 (lv_at hl 8 rfl) ?_
                          refine lv_iadd hx hb dL_tells_348 ?_
                          refine va_iald (D := E.1) hx hb hK.1 hR 0 0 rfl rfl (rIn 24 (by decide) (by first | assumption | exact tOK.nI (by omega))) dL_tells_349 ?_
                          refine lv_icmp_ne (tgt := 416) hx hb dL_tells_350 (by decide) (fun c_29 => ?_) (fun c_29 => ?_)
                          · replace hE := hE.trans (if_neg c_29)
                            refine lv_iconst (v := 0) hx hb dL_tells_416 (by decide) ?_
                            refine lv_istore (lv' := [(11, .int 0), (10, .int 1), (4, .int (x10_4 ||| 0)), (3, .int (x10_3 + (x34_8 * x34_9))), (2, .int (x10_2 + x34_8)), (9, .int x34_9), (8, .int x34_8), (7, .int x34_7), (6, .int x34_6), (5, .int (nI i10)), (0, .ref (ad 80)), (1, .ref (a 0))]) hx hb dL_tells_417 hl (by decide) rfl (fun ls hl => ?_)
                            refine lv_iload hx hb dL_tells_419 (lv_at hl 0 rfl) ?_
                            refine lv_if_eq (tgt := 456) hx hb dL_tells_421 (by decide) (fun _ => ?_) (fun c => absurd (by decide) c)
                            refine lv_iconst (v := 0) hx hb dL_tells_456 (by decide) ?_
                            subst R
                            exact W.zret (v := 0) (ty := .boolean) hx hb hr rfl (fun t ht hW => ⟨rfl, by rw [ht]; exact hY, hS.F ht⟩) hS.2.2 dL_tells_457
                          · replace hE := hE.trans (if_pos c_29)
                            refine lv_aload_n hx hb dL_tells_353 rfl (lv_at hl 9 rfl) ?_
                            refine lv_iload hx hb dL_tells_354 (lv_at hl 8 rfl) ?_
                            refine lv_iconst (v := 4) hx hb dL_tells_356 (by decide) ?_
                            refine kCallRi (va_runV (As := [.int (nI i10), .int 4]) (rest := []) ⟨hx, hb, hml, hown, hts⟩ (c_X5_of l E ad S hs (nI i10) 4 (by assumption) _ rfl) (cwV 2 hts gL_tells_X5_of rfl rfl rfl (by decide +kernel) ⟨Nat.le_of_ble_eq_true rfl, Nat.le_of_ble_eq_true rfl⟩) (kPreYV hK hY.2.1 hY (q0 := 0) rfl rfl) rfl rfl hl.1 rfl (lv_room (Nat.le_of_ble_eq_true rfl)) dL_tells_357 ⟨Nat.le_of_ble_eq_true rfl, Nat.le_of_ble_eq_true rfl⟩) ?_
                            refine lv_aload_n hx hb dL_tells_360 rfl (lv_at hl 10 rfl) ?_
                            refine lv_bipush (v := 36) hx hb dL_tells_361 (by decide) ?_
                            refine lv_iload hx hb dL_tells_363 (lv_at hl 8 rfl) ?_
                            refine lv_iadd hx hb dL_tells_365 ?_
                            refine va_iald (D := E.1) hx hb hK.1 hR 0 0 rfl rfl (rIn 36 (by decide) (by first | assumption | exact tOK.nI (by omega))) dL_tells_366 ?_
                            refine lv_icmp_ne (tgt := 416) hx hb dL_tells_367 (by decide) (fun c_30 => ?_) (fun c_30 => ?_)
                            · replace hE := hE.trans (if_neg c_30)
                              refine lv_iconst (v := 0) hx hb dL_tells_416 (by decide) ?_
                              refine lv_istore (lv' := [(11, .int 0), (10, .int 1), (4, .int (x10_4 ||| 0)), (3, .int (x10_3 + (x34_8 * x34_9))), (2, .int (x10_2 + x34_8)), (9, .int x34_9), (8, .int x34_8), (7, .int x34_7), (6, .int x34_6), (5, .int (nI i10)), (0, .ref (ad 80)), (1, .ref (a 0))]) hx hb dL_tells_417 hl (by decide) rfl (fun ls hl => ?_)
                              refine lv_iload hx hb dL_tells_419 (lv_at hl 0 rfl) ?_
                              refine lv_if_eq (tgt := 456) hx hb dL_tells_421 (by decide) (fun _ => ?_) (fun c => absurd (by decide) c)
                              refine lv_iconst (v := 0) hx hb dL_tells_456 (by decide) ?_
                              subst R
                              exact W.zret (v := 0) (ty := .boolean) hx hb hr rfl (fun t ht hW => ⟨rfl, by rw [ht]; exact hY, hS.F ht⟩) hS.2.2 dL_tells_457
                            · replace hE := hE.trans (if_pos c_30)
                              refine lv_aload_n hx hb dL_tells_370 rfl (lv_at hl 9 rfl) ?_
                              refine lv_iload hx hb dL_tells_371 (lv_at hl 8 rfl) ?_
                              refine lv_iconst (v := 5) hx hb dL_tells_373 (by decide) ?_
                              refine kCallRi (va_runV (As := [.int (nI i10), .int 5]) (rest := []) ⟨hx, hb, hml, hown, hts⟩ (c_X5_of l E ad S hs (nI i10) 5 (by assumption) _ rfl) (cwV 2 hts gL_tells_X5_of rfl rfl rfl (by decide +kernel) ⟨Nat.le_of_ble_eq_true rfl, Nat.le_of_ble_eq_true rfl⟩) (kPreYV hK hY.2.1 hY (q0 := 0) rfl rfl) rfl rfl hl.1 rfl (lv_room (Nat.le_of_ble_eq_true rfl)) dL_tells_374 ⟨Nat.le_of_ble_eq_true rfl, Nat.le_of_ble_eq_true rfl⟩) ?_
                              refine lv_iload hx hb dL_tells_377 (lv_at hl 7 rfl) ?_
                              refine lv_icmp_ne (tgt := 416) hx hb dL_tells_379 (by decide) (fun c_31 => ?_) (fun c_31 => ?_)
                              · replace hE := hE.trans (if_neg c_31)
                                refine lv_iconst (v := 0) hx hb dL_tells_416 (by decide) ?_
                                refine lv_istore (lv' := [(11, .int 0), (10, .int 1), (4, .int (x10_4 ||| 0)), (3, .int (x10_3 + (x34_8 * x34_9))), (2, .int (x10_2 + x34_8)), (9, .int x34_9), (8, .int x34_8), (7, .int x34_7), (6, .int x34_6), (5, .int (nI i10)), (0, .ref (ad 80)), (1, .ref (a 0))]) hx hb dL_tells_417 hl (by decide) rfl (fun ls hl => ?_)
                                refine lv_iload hx hb dL_tells_419 (lv_at hl 0 rfl) ?_
                                refine lv_if_eq (tgt := 456) hx hb dL_tells_421 (by decide) (fun _ => ?_) (fun c => absurd (by decide) c)
                                refine lv_iconst (v := 0) hx hb dL_tells_456 (by decide) ?_
                                subst R
                                exact W.zret (v := 0) (ty := .boolean) hx hb hr rfl (fun t ht hW => ⟨rfl, by rw [ht]; exact hY, hS.F ht⟩) hS.2.2 dL_tells_457
                              · replace hE := hE.trans (if_pos c_31)
                                refine lv_aload_n hx hb dL_tells_382 rfl (lv_at hl 9 rfl) ?_
                                refine lv_iload hx hb dL_tells_383 (lv_at hl 8 rfl) ?_
                                refine lv_bipush (v := 6) hx hb dL_tells_385 (by decide) ?_
                                refine kCallRi (va_runV (As := [.int (nI i10), .int 6]) (rest := []) ⟨hx, hb, hml, hown, hts⟩ (c_X5_of l E ad S hs (nI i10) 6 (by assumption) _ rfl) (cwV 2 hts gL_tells_X5_of rfl rfl rfl (by decide +kernel) ⟨Nat.le_of_ble_eq_true rfl, Nat.le_of_ble_eq_true rfl⟩) (kPreYV hK hY.2.1 hY (q0 := 0) rfl rfl) rfl rfl hl.1 rfl (lv_room (Nat.le_of_ble_eq_true rfl)) dL_tells_387 ⟨Nat.le_of_ble_eq_true rfl, Nat.le_of_ble_eq_true rfl⟩) ?_
                                refine lv_iload hx hb dL_tells_390 (lv_at hl 6 rfl) ?_
                                refine lv_icmp_ne (tgt := 416) hx hb dL_tells_392 (by decide) (fun c_32 => ?_) (fun c_32 => ?_)
                                · replace hE := hE.trans (if_neg c_32)
                                  refine lv_iconst (v := 0) hx hb dL_tells_416 (by decide) ?_
                                  refine lv_istore (lv' := [(11, .int 0), (10, .int 1), (4, .int (x10_4 ||| 0)), (3, .int (x10_3 + (x34_8 * x34_9))), (2, .int (x10_2 + x34_8)), (9, .int x34_9), (8, .int x34_8), (7, .int x34_7), (6, .int x34_6), (5, .int (nI i10)), (0, .ref (ad 80)), (1, .ref (a 0))]) hx hb dL_tells_417 hl (by decide) rfl (fun ls hl => ?_)
                                  refine lv_iload hx hb dL_tells_419 (lv_at hl 0 rfl) ?_
                                  refine lv_if_eq (tgt := 456) hx hb dL_tells_421 (by decide) (fun _ => ?_) (fun c => absurd (by decide) c)
                                  refine lv_iconst (v := 0) hx hb dL_tells_456 (by decide) ?_
                                  subst R
                                  exact W.zret (v := 0) (ty := .boolean) hx hb hr rfl (fun t ht hW => ⟨rfl, by rw [ht]; exact hY, hS.F ht⟩) hS.2.2 dL_tells_457
                                · replace hE := hE.trans (if_pos c_32)
                                  refine lv_aload_n hx hb dL_tells_395 rfl (lv_at hl 9 rfl) ?_
                                  refine lv_iload hx hb dL_tells_396 (lv_at hl 8 rfl) ?_
                                  refine lv_bipush (v := 8) hx hb dL_tells_398 (by decide) ?_
                                  refine kCallRi (va_runV (As := [.int (nI i10), .int 8]) (rest := []) ⟨hx, hb, hml, hown, hts⟩ (c_X5_of l E ad S hs (nI i10) 8 (by assumption) _ rfl) (cwV 2 hts gL_tells_X5_of rfl rfl rfl (by decide +kernel) ⟨Nat.le_of_ble_eq_true rfl, Nat.le_of_ble_eq_true rfl⟩) (kPreYV hK hY.2.1 hY (q0 := 0) rfl rfl) rfl rfl hl.1 rfl (lv_room (Nat.le_of_ble_eq_true rfl)) dL_tells_400 ⟨Nat.le_of_ble_eq_true rfl, Nat.le_of_ble_eq_true rfl⟩) ?_
                                  refine lv_aload_n hx hb dL_tells_403 rfl (lv_at hl 10 rfl) ?_
                                  refine lv_iload hx hb dL_tells_404 (lv_at hl 8 rfl) ?_
                                  refine kCallRi (va_runS (As := [.ref (a 0), .int (nI i10)]) (rest := [.int (mX5_of S (nI i10) 8)]) ⟨hx, hb, hml, hown, hts⟩ (c_L_safety l E a r (nI i10) (by first | assumption | exact tOK.nI (by omega)) (by first | assumption | exact tOK.nI (by omega)) _ rfl) (va_cwS 2 hts gL_tells_L_safety rfl rfl rfl (by decide +kernel) ⟨Nat.le_of_ble_eq_true rfl, Nat.le_of_ble_eq_true rfl⟩) (kPreS hK hR) rfl rfl hl.1 rfl (lv_room (Nat.le_of_ble_eq_true rfl)) dL_tells_406 ⟨Nat.le_of_ble_eq_true rfl, Nat.le_of_ble_eq_true rfl⟩) ?_
                                  refine lv_icmp_ne (tgt := 416) hx hb dL_tells_409 (by decide) (fun c_33 => ?_) (fun c_33 => ?_)
                                  · replace hE := hE.trans (if_neg c_33)
                                    refine lv_iconst (v := 0) hx hb dL_tells_416 (by decide) ?_
                                    refine lv_istore (lv' := [(11, .int 0), (10, .int 1), (4, .int (x10_4 ||| 0)), (3, .int (x10_3 + (x34_8 * x34_9))), (2, .int (x10_2 + x34_8)), (9, .int x34_9), (8, .int x34_8), (7, .int x34_7), (6, .int x34_6), (5, .int (nI i10)), (0, .ref (ad 80)), (1, .ref (a 0))]) hx hb dL_tells_417 hl (by decide) rfl (fun ls hl => ?_)
                                    refine lv_iload hx hb dL_tells_419 (lv_at hl 0 rfl) ?_
                                    refine lv_if_eq (tgt := 456) hx hb dL_tells_421 (by decide) (fun _ => ?_) (fun c => absurd (by decide) c)
                                    refine lv_iconst (v := 0) hx hb dL_tells_456 (by decide) ?_
                                    subst R
                                    exact W.zret (v := 0) (ty := .boolean) hx hb hr rfl (fun t ht hW => ⟨rfl, by rw [ht]; exact hY, hS.F ht⟩) hS.2.2 dL_tells_457
                                  · replace hE := hE.trans (if_pos c_33)
                                    refine lv_iconst (v := 1) hx hb dL_tells_412 (by decide) ?_
                                    refine lv_goto (tgt := 417) hx hb dL_tells_413 (by decide) ?_
                                    refine lv_istore (lv' := [(11, .int 1), (10, .int 1), (4, .int (x10_4 ||| 0)), (3, .int (x10_3 + (x34_8 * x34_9))), (2, .int (x10_2 + x34_8)), (9, .int x34_9), (8, .int x34_8), (7, .int x34_7), (6, .int x34_6), (5, .int (nI i10)), (0, .ref (ad 80)), (1, .ref (a 0))]) hx hb dL_tells_417 hl (by decide) rfl (fun ls hl => ?_)
                                    refine lv_iload hx hb dL_tells_419 (lv_at hl 0 rfl) ?_
                                    refine lv_if_eq (tgt := 456) hx hb dL_tells_421 (by decide) (fun c => absurd c (by decide)) (fun _ => ?_)
                                    refine lv_aload_n hx hb dL_tells_424 rfl (lv_at hl 10 rfl) ?_
                                    refine lv_iload hx hb dL_tells_425 (lv_at hl 9 rfl) ?_
                                    refine lv_bipush (v := 7) hx hb dL_tells_427 (by decide) ?_
                                    refine kCallRi (va_runV (As := [.int (nI i10), .int 7]) (rest := []) ⟨hx, hb, hml, hown, hts⟩ (c_X5_of l E ad S hs (nI i10) 7 (by assumption) _ rfl) (cwV 2 hts gL_tells_X5_of rfl rfl rfl (by decide +kernel) ⟨Nat.le_of_ble_eq_true rfl, Nat.le_of_ble_eq_true rfl⟩) (kPreYV hK hY.2.1 hY (q0 := 0) rfl rfl) rfl rfl hl.1 rfl (lv_room (Nat.le_of_ble_eq_true rfl)) dL_tells_429 ⟨Nat.le_of_ble_eq_true rfl, Nat.le_of_ble_eq_true rfl⟩) ?_
                                    refine lv_bipush (v := (-6)) hx hb dL_tells_432 (by decide) ?_
                                    refine lv_icmp_ne (tgt := 441) hx hb dL_tells_434 (by decide) (fun c_34 => ?_) (fun c_34 => ?_)
                                    · replace hE := hE.trans (if_neg c_34)
                                      refine lv_iconst (v := 0) hx hb dL_tells_441 (by decide) ?_
                                      refine lv_iload hx hb dL_tells_442 (lv_at hl 1 rfl) ?_
                                      refine lv_iconst (v := 2) hx hb dL_tells_444 (by decide) ?_
                                      refine lv_icmp_ge (tgt := 452) hx hb dL_tells_445 (by decide) (fun c => absurd c (by decide)) (fun _ => ?_)
                                      refine lv_iconst (v := 1) hx hb dL_tells_448 (by decide) ?_
                                      refine lv_goto (tgt := 453) hx hb dL_tells_449 (by decide) ?_
                                      refine lv_icmp_eq (tgt := 458) hx hb dL_tells_453 (by decide) (fun c => absurd c (by decide)) (fun _ => ?_)
                                      refine lv_iconst (v := 0) hx hb dL_tells_456 (by decide) ?_
                                      subst R
                                      exact W.zret (v := 0) (ty := .boolean) hx hb hr rfl (fun t ht hW => ⟨rfl, by rw [ht]; exact hY, hS.F ht⟩) hS.2.2 dL_tells_457
                                    · replace hE := hE.trans (if_pos c_34)
                                      refine lv_iconst (v := 1) hx hb dL_tells_437 (by decide) ?_
                                      refine lv_goto (tgt := 442) hx hb dL_tells_438 (by decide) ?_
                                      refine lv_iload hx hb dL_tells_442 (lv_at hl 1 rfl) ?_
                                      refine lv_iconst (v := 2) hx hb dL_tells_444 (by decide) ?_
                                      refine lv_icmp_ge (tgt := 452) hx hb dL_tells_445 (by decide) (fun c => absurd c (by decide)) (fun _ => ?_)
                                      refine lv_iconst (v := 1) hx hb dL_tells_448 (by decide) ?_
                                      refine lv_goto (tgt := 453) hx hb dL_tells_449 (by decide) ?_
                                      refine lv_icmp_eq (tgt := 458) hx hb dL_tells_453 (by decide) (fun _ => ?_) (fun c => absurd (by decide) c)
                                      refine lv_iinc (v := (nI (i10 + 1))) (lv' := [(5, .int (nI (i10 + 1))), (11, .int 1), (10, .int 1), (4, .int (x10_4 ||| 0)), (3, .int (x10_3 + (x34_8 * x34_9))), (2, .int (x10_2 + x34_8)), (9, .int x34_9), (8, .int x34_8), (7, .int x34_7), (6, .int x34_6), (0, .ref (ad 80)), (1, .ref (a 0))]) hx hb dL_tells_458 hl (k := 9) rfl (nI_1 i10) (by decide) rfl (fun ls hl => ?_)
                                      refine lv_goto (tgt := 10) hx hb dL_tells_461 (by decide) ?_
                                      exact ih10 (x10_2 + x34_8) (x10_3 + (x34_8 * x34_9)) (x10_4 ||| 0) (i10 + 1) (by omega) (by omega) ls (lv_sub hl [0, 3, 4, 5, 10, 11] rfl) hE
                · replace hE := hE.trans (if_neg c_15)
                  refine lv_iconst (v := 2) hx hb dL_tells_261 (by decide) ?_
                  refine lv_goto (tgt := 280) hx hb dL_tells_262 (by decide) ?_
                  refine lv_istore (lv' := [(10, .int 2), (4, .int (x10_4 ||| 0)), (3, .int (x10_3 + (x34_8 * x34_9))), (2, .int (x10_2 + x34_8)), (9, .int x34_9), (8, .int x34_8), (7, .int x34_7), (6, .int x34_6), (5, .int (nI i10)), (0, .ref (ad 80)), (1, .ref (a 0))]) hx hb dL_tells_280 hl (by decide) rfl (fun ls hl => ?_)
                  refine lv_aload_n hx hb dL_tells_282 rfl (lv_at hl 9 rfl) ?_
                  refine lv_iload hx hb dL_tells_283 (lv_at hl 8 rfl) ?_
                  refine lv_iconst (v := 0) hx hb dL_tells_285 (by decide) ?_
                  refine kCallRi (va_runV (As := [.int (nI i10), .int 0]) (rest := []) ⟨hx, hb, hml, hown, hts⟩ (c_X5_of l E ad S hs (nI i10) 0 (by assumption) _ rfl) (cwV 2 hts gL_tells_X5_of rfl rfl rfl (by decide +kernel) ⟨Nat.le_of_ble_eq_true rfl, Nat.le_of_ble_eq_true rfl⟩) (kPreYV hK hY.2.1 hY (q0 := 0) rfl rfl) rfl rfl hl.1 rfl (lv_room (Nat.le_of_ble_eq_true rfl)) dL_tells_286 ⟨Nat.le_of_ble_eq_true rfl, Nat.le_of_ble_eq_true rfl⟩) ?_
                  refine lv_iload hx hb dL_tells_289 (lv_at hl 0 rfl) ?_
                  refine lv_icmp_ne (tgt := 416) hx hb dL_tells_291 (by decide) (fun c_35 => ?_) (fun c_35 => ?_)
                  · replace hE := hE.trans (if_neg c_35)
                    refine lv_iconst (v := 0) hx hb dL_tells_416 (by decide) ?_
                    refine lv_istore (lv' := [(11, .int 0), (10, .int 2), (4, .int (x10_4 ||| 0)), (3, .int (x10_3 + (x34_8 * x34_9))), (2, .int (x10_2 + x34_8)), (9, .int x34_9), (8, .int x34_8), (7, .int x34_7), (6, .int x34_6), (5, .int (nI i10)), (0, .ref (ad 80)), (1, .ref (a 0))]) hx hb dL_tells_417 hl (by decide) rfl (fun ls hl => ?_)
                    refine lv_iload hx hb dL_tells_419 (lv_at hl 0 rfl) ?_
                    refine lv_if_eq (tgt := 456) hx hb dL_tells_421 (by decide) (fun _ => ?_) (fun c => absurd (by decide) c)
                    refine lv_iconst (v := 0) hx hb dL_tells_456 (by decide) ?_
                    subst R
                    exact W.zret (v := 0) (ty := .boolean) hx hb hr rfl (fun t ht hW => ⟨rfl, by rw [ht]; exact hY, hS.F ht⟩) hS.2.2 dL_tells_457
                  · replace hE := hE.trans (if_pos c_35)
                    refine lv_aload_n hx hb dL_tells_294 rfl (lv_at hl 9 rfl) ?_
                    refine lv_iload hx hb dL_tells_295 (lv_at hl 8 rfl) ?_
                    refine lv_iconst (v := 1) hx hb dL_tells_297 (by decide) ?_
                    refine kCallRi (va_runV (As := [.int (nI i10), .int 1]) (rest := []) ⟨hx, hb, hml, hown, hts⟩ (c_X5_of l E ad S hs (nI i10) 1 (by assumption) _ rfl) (cwV 2 hts gL_tells_X5_of rfl rfl rfl (by decide +kernel) ⟨Nat.le_of_ble_eq_true rfl, Nat.le_of_ble_eq_true rfl⟩) (kPreYV hK hY.2.1 hY (q0 := 0) rfl rfl) rfl rfl hl.1 rfl (lv_room (Nat.le_of_ble_eq_true rfl)) dL_tells_298 ⟨Nat.le_of_ble_eq_true rfl, Nat.le_of_ble_eq_true rfl⟩) ?_
                    refine lv_aload_n hx hb dL_tells_301 rfl (lv_at hl 10 rfl) ?_
                    refine lv_iload hx hb dL_tells_302 (lv_at hl 8 rfl) ?_
                    refine va_iald (D := E.1) hx hb hK.1 hR 0 0 rfl rfl (rIn0 (by first | assumption | exact tOK.nI (by omega))) dL_tells_304 ?_
                    refine lv_icmp_ne (tgt := 416) hx hb dL_tells_305 (by decide) (fun c_36 => ?_) (fun c_36 => ?_)
                    · replace hE := hE.trans (if_neg c_36)
                      refine lv_iconst (v := 0) hx hb dL_tells_416 (by decide) ?_
                      refine lv_istore (lv' := [(11, .int 0), (10, .int 2), (4, .int (x10_4 ||| 0)), (3, .int (x10_3 + (x34_8 * x34_9))), (2, .int (x10_2 + x34_8)), (9, .int x34_9), (8, .int x34_8), (7, .int x34_7), (6, .int x34_6), (5, .int (nI i10)), (0, .ref (ad 80)), (1, .ref (a 0))]) hx hb dL_tells_417 hl (by decide) rfl (fun ls hl => ?_)
                      refine lv_iload hx hb dL_tells_419 (lv_at hl 0 rfl) ?_
                      refine lv_if_eq (tgt := 456) hx hb dL_tells_421 (by decide) (fun _ => ?_) (fun c => absurd (by decide) c)
                      refine lv_iconst (v := 0) hx hb dL_tells_456 (by decide) ?_
                      subst R
                      exact W.zret (v := 0) (ty := .boolean) hx hb hr rfl (fun t ht hW => ⟨rfl, by rw [ht]; exact hY, hS.F ht⟩) hS.2.2 dL_tells_457
                    · replace hE := hE.trans (if_pos c_36)
                      refine lv_aload_n hx hb dL_tells_308 rfl (lv_at hl 9 rfl) ?_
                      refine lv_iload hx hb dL_tells_309 (lv_at hl 8 rfl) ?_
                      refine lv_iconst (v := 2) hx hb dL_tells_311 (by decide) ?_
                      refine kCallRi (va_runV (As := [.int (nI i10), .int 2]) (rest := []) ⟨hx, hb, hml, hown, hts⟩ (c_X5_of l E ad S hs (nI i10) 2 (by assumption) _ rfl) (cwV 2 hts gL_tells_X5_of rfl rfl rfl (by decide +kernel) ⟨Nat.le_of_ble_eq_true rfl, Nat.le_of_ble_eq_true rfl⟩) (kPreYV hK hY.2.1 hY (q0 := 0) rfl rfl) rfl rfl hl.1 rfl (lv_room (Nat.le_of_ble_eq_true rfl)) dL_tells_312 ⟨Nat.le_of_ble_eq_true rfl, Nat.le_of_ble_eq_true rfl⟩) ?_
                      refine lv_iload hx hb dL_tells_315 (lv_at hl 0 rfl) ?_
                      refine lv_iconst (v := 1) hx hb dL_tells_317 (by decide) ?_
                      refine lv_icmp_ne (tgt := 331) hx hb dL_tells_318 (by decide) (fun _ => ?_) (fun c => absurd c (by decide))
                      refine lv_bipush (v := (-6)) hx hb dL_tells_331 (by decide) ?_
                      refine lv_icmp_ne (tgt := 416) hx hb dL_tells_333 (by decide) (fun c_37 => ?_) (fun c_37 => ?_)
                      · replace hE := hE.trans (if_neg c_37)
                        refine lv_iconst (v := 0) hx hb dL_tells_416 (by decide) ?_
                        refine lv_istore (lv' := [(11, .int 0), (10, .int 2), (4, .int (x10_4 ||| 0)), (3, .int (x10_3 + (x34_8 * x34_9))), (2, .int (x10_2 + x34_8)), (9, .int x34_9), (8, .int x34_8), (7, .int x34_7), (6, .int x34_6), (5, .int (nI i10)), (0, .ref (ad 80)), (1, .ref (a 0))]) hx hb dL_tells_417 hl (by decide) rfl (fun ls hl => ?_)
                        refine lv_iload hx hb dL_tells_419 (lv_at hl 0 rfl) ?_
                        refine lv_if_eq (tgt := 456) hx hb dL_tells_421 (by decide) (fun _ => ?_) (fun c => absurd (by decide) c)
                        refine lv_iconst (v := 0) hx hb dL_tells_456 (by decide) ?_
                        subst R
                        exact W.zret (v := 0) (ty := .boolean) hx hb hr rfl (fun t ht hW => ⟨rfl, by rw [ht]; exact hY, hS.F ht⟩) hS.2.2 dL_tells_457
                      · replace hE := hE.trans (if_pos c_37)
                        refine lv_aload_n hx hb dL_tells_336 rfl (lv_at hl 9 rfl) ?_
                        refine lv_iload hx hb dL_tells_337 (lv_at hl 8 rfl) ?_
                        refine lv_iconst (v := 3) hx hb dL_tells_339 (by decide) ?_
                        refine kCallRi (va_runV (As := [.int (nI i10), .int 3]) (rest := []) ⟨hx, hb, hml, hown, hts⟩ (c_X5_of l E ad S hs (nI i10) 3 (by assumption) _ rfl) (cwV 2 hts gL_tells_X5_of rfl rfl rfl (by decide +kernel) ⟨Nat.le_of_ble_eq_true rfl, Nat.le_of_ble_eq_true rfl⟩) (kPreYV hK hY.2.1 hY (q0 := 0) rfl rfl) rfl rfl hl.1 rfl (lv_room (Nat.le_of_ble_eq_true rfl)) dL_tells_340 ⟨Nat.le_of_ble_eq_true rfl, Nat.le_of_ble_eq_true rfl⟩) ?_
                        refine lv_aload_n hx hb dL_tells_343 rfl (lv_at hl 10 rfl) ?_
                        refine lv_bipush (v := 24) hx hb dL_tells_344 (by decide) ?_
                        refine lv_iload hx hb dL_tells_346 (lv_at hl 8 rfl) ?_
                        refine lv_iadd hx hb dL_tells_348 ?_
                        refine va_iald (D := E.1) hx hb hK.1 hR 0 0 rfl rfl (rIn 24 (by decide) (by first | assumption | exact tOK.nI (by omega))) dL_tells_349 ?_
                        refine lv_icmp_ne (tgt := 416) hx hb dL_tells_350 (by decide) (fun c_38 => ?_) (fun c_38 => ?_)
                        · replace hE := hE.trans (if_neg c_38)
                          refine lv_iconst (v := 0) hx hb dL_tells_416 (by decide) ?_
                          refine lv_istore (lv' := [(11, .int 0), (10, .int 2), (4, .int (x10_4 ||| 0)), (3, .int (x10_3 + (x34_8 * x34_9))), (2, .int (x10_2 + x34_8)), (9, .int x34_9), (8, .int x34_8), (7, .int x34_7), (6, .int x34_6), (5, .int (nI i10)), (0, .ref (ad 80)), (1, .ref (a 0))]) hx hb dL_tells_417 hl (by decide) rfl (fun ls hl => ?_)
                          refine lv_iload hx hb dL_tells_419 (lv_at hl 0 rfl) ?_
                          refine lv_if_eq (tgt := 456) hx hb dL_tells_421 (by decide) (fun _ => ?_) (fun c => absurd (by decide) c)
                          refine lv_iconst (v := 0) hx hb dL_tells_456 (by decide) ?_
                          subst R
                          exact W.zret (v := 0) (ty := .boolean) hx hb hr rfl (fun t ht hW => ⟨rfl, by rw [ht]; exact hY, hS.F ht⟩) hS.2.2 dL_tells_457
                        · replace hE := hE.trans (if_pos c_38)
                          refine lv_aload_n hx hb dL_tells_353 rfl (lv_at hl 9 rfl) ?_
                          refine lv_iload hx hb dL_tells_354 (lv_at hl 8 rfl) ?_
                          refine lv_iconst (v := 4) hx hb dL_tells_356 (by decide) ?_
                          refine kCallRi (va_runV (As := [.int (nI i10), .int 4]) (rest := []) ⟨hx, hb, hml, hown, hts⟩ (c_X5_of l E ad S hs (nI i10) 4 (by assumption) _ rfl) (cwV 2 hts gL_tells_X5_of rfl rfl rfl (by decide +kernel) ⟨Nat.le_of_ble_eq_true rfl, Nat.le_of_ble_eq_true rfl⟩) (kPreYV hK hY.2.1 hY (q0 := 0) rfl rfl) rfl rfl hl.1 rfl (lv_room (Nat.le_of_ble_eq_true rfl)) dL_tells_357 ⟨Nat.le_of_ble_eq_true rfl, Nat.le_of_ble_eq_true rfl⟩) ?_
                          refine lv_aload_n hx hb dL_tells_360 rfl (lv_at hl 10 rfl) ?_
                          refine lv_bipush (v := 36) hx hb dL_tells_361 (by decide) ?_
                          refine lv_iload hx hb dL_tells_363 (lv_at hl 8 rfl) ?_
                          refine lv_iadd hx hb dL_tells_365 ?_
                          refine va_iald (D := E.1) hx hb hK.1 hR 0 0 rfl rfl (rIn 36 (by decide) (by first | assumption | exact tOK.nI (by omega))) dL_tells_366 ?_
                          refine lv_icmp_ne (tgt := 416) hx hb dL_tells_367 (by decide) (fun c_39 => ?_) (fun c_39 => ?_)
                          · replace hE := hE.trans (if_neg c_39)
                            refine lv_iconst (v := 0) hx hb dL_tells_416 (by decide) ?_
                            refine lv_istore (lv' := [(11, .int 0), (10, .int 2), (4, .int (x10_4 ||| 0)), (3, .int (x10_3 + (x34_8 * x34_9))), (2, .int (x10_2 + x34_8)), (9, .int x34_9), (8, .int x34_8), (7, .int x34_7), (6, .int x34_6), (5, .int (nI i10)), (0, .ref (ad 80)), (1, .ref (a 0))]) hx hb dL_tells_417 hl (by decide) rfl (fun ls hl => ?_)
                            refine lv_iload hx hb dL_tells_419 (lv_at hl 0 rfl) ?_
                            refine lv_if_eq (tgt := 456) hx hb dL_tells_421 (by decide) (fun _ => ?_) (fun c => absurd (by decide) c)
                            refine lv_iconst (v := 0) hx hb dL_tells_456 (by decide) ?_
                            subst R
                            exact W.zret (v := 0) (ty := .boolean) hx hb hr rfl (fun t ht hW => ⟨rfl, by rw [ht]; exact hY, hS.F ht⟩) hS.2.2 dL_tells_457
                          · replace hE := hE.trans (if_pos c_39)
                            refine lv_aload_n hx hb dL_tells_370 rfl (lv_at hl 9 rfl) ?_
                            refine lv_iload hx hb dL_tells_371 (lv_at hl 8 rfl) ?_
                            refine lv_iconst (v := 5) hx hb dL_tells_373 (by decide) ?_
                            refine kCallRi (va_runV (As := [.int (nI i10), .int 5]) (rest := []) ⟨hx, hb, hml, hown, hts⟩ (c_X5_of l E ad S hs (nI i10) 5 (by assumption) _ rfl) (cwV 2 hts gL_tells_X5_of rfl rfl rfl (by decide +kernel) ⟨Nat.le_of_ble_eq_true rfl, Nat.le_of_ble_eq_true rfl⟩) (kPreYV hK hY.2.1 hY (q0 := 0) rfl rfl) rfl rfl hl.1 rfl (lv_room (Nat.le_of_ble_eq_true rfl)) dL_tells_374 ⟨Nat.le_of_ble_eq_true rfl, Nat.le_of_ble_eq_true rfl⟩) ?_
                            refine lv_iload hx hb dL_tells_377 (lv_at hl 7 rfl) ?_
                            refine lv_icmp_ne (tgt := 416) hx hb dL_tells_379 (by decide) (fun c_40 => ?_) (fun c_40 => ?_)
                            · replace hE := hE.trans (if_neg c_40)
                              refine lv_iconst (v := 0) hx hb dL_tells_416 (by decide) ?_
                              refine lv_istore (lv' := [(11, .int 0), (10, .int 2), (4, .int (x10_4 ||| 0)), (3, .int (x10_3 + (x34_8 * x34_9))), (2, .int (x10_2 + x34_8)), (9, .int x34_9), (8, .int x34_8), (7, .int x34_7), (6, .int x34_6), (5, .int (nI i10)), (0, .ref (ad 80)), (1, .ref (a 0))]) hx hb dL_tells_417 hl (by decide) rfl (fun ls hl => ?_)
                              refine lv_iload hx hb dL_tells_419 (lv_at hl 0 rfl) ?_
                              refine lv_if_eq (tgt := 456) hx hb dL_tells_421 (by decide) (fun _ => ?_) (fun c => absurd (by decide) c)
                              refine lv_iconst (v := 0) hx hb dL_tells_456 (by decide) ?_
                              subst R
                              exact W.zret (v := 0) (ty := .boolean) hx hb hr rfl (fun t ht hW => ⟨rfl, by rw [ht]; exact hY, hS.F ht⟩) hS.2.2 dL_tells_457
                            · replace hE := hE.trans (if_pos c_40)
                              refine lv_aload_n hx hb dL_tells_382 rfl (lv_at hl 9 rfl) ?_
                              refine lv_iload hx hb dL_tells_383 (lv_at hl 8 rfl) ?_
                              refine lv_bipush (v := 6) hx hb dL_tells_385 (by decide) ?_
                              refine kCallRi (va_runV (As := [.int (nI i10), .int 6]) (rest := []) ⟨hx, hb, hml, hown, hts⟩ (c_X5_of l E ad S hs (nI i10) 6 (by assumption) _ rfl) (cwV 2 hts gL_tells_X5_of rfl rfl rfl (by decide +kernel) ⟨Nat.le_of_ble_eq_true rfl, Nat.le_of_ble_eq_true rfl⟩) (kPreYV hK hY.2.1 hY (q0 := 0) rfl rfl) rfl rfl hl.1 rfl (lv_room (Nat.le_of_ble_eq_true rfl)) dL_tells_387 ⟨Nat.le_of_ble_eq_true rfl, Nat.le_of_ble_eq_true rfl⟩) ?_
                              refine lv_iload hx hb dL_tells_390 (lv_at hl 6 rfl) ?_
                              refine lv_icmp_ne (tgt := 416) hx hb dL_tells_392 (by decide) (fun c_41 => ?_) (fun c_41 => ?_)
                              · replace hE := hE.trans (if_neg c_41)
                                refine lv_iconst (v := 0) hx hb dL_tells_416 (by decide) ?_
                                refine lv_istore (lv' := [(11, .int 0), (10, .int 2), (4, .int (x10_4 ||| 0)), (3, .int (x10_3 + (x34_8 * x34_9))), (2, .int (x10_2 + x34_8)), (9, .int x34_9), (8, .int x34_8), (7, .int x34_7), (6, .int x34_6), (5, .int (nI i10)), (0, .ref (ad 80)), (1, .ref (a 0))]) hx hb dL_tells_417 hl (by decide) rfl (fun ls hl => ?_)
                                refine lv_iload hx hb dL_tells_419 (lv_at hl 0 rfl) ?_
                                refine lv_if_eq (tgt := 456) hx hb dL_tells_421 (by decide) (fun _ => ?_) (fun c => absurd (by decide) c)
                                refine lv_iconst (v := 0) hx hb dL_tells_456 (by decide) ?_
                                subst R
                                exact W.zret (v := 0) (ty := .boolean) hx hb hr rfl (fun t ht hW => ⟨rfl, by rw [ht]; exact hY, hS.F ht⟩) hS.2.2 dL_tells_457
                              · replace hE := hE.trans (if_pos c_41)
                                refine lv_aload_n hx hb dL_tells_395 rfl (lv_at hl 9 rfl) ?_
                                refine lv_iload hx hb dL_tells_396 (lv_at hl 8 rfl) ?_
                                refine lv_bipush (v := 8) hx hb dL_tells_398 (by decide) ?_
                                refine kCallRi (va_runV (As := [.int (nI i10), .int 8]) (rest := []) ⟨hx, hb, hml, hown, hts⟩ (c_X5_of l E ad S hs (nI i10) 8 (by assumption) _ rfl) (cwV 2 hts gL_tells_X5_of rfl rfl rfl (by decide +kernel) ⟨Nat.le_of_ble_eq_true rfl, Nat.le_of_ble_eq_true rfl⟩) (kPreYV hK hY.2.1 hY (q0 := 0) rfl rfl) rfl rfl hl.1 rfl (lv_room (Nat.le_of_ble_eq_true rfl)) dL_tells_400 ⟨Nat.le_of_ble_eq_true rfl, Nat.le_of_ble_eq_true rfl⟩) ?_
                                refine lv_aload_n hx hb dL_tells_403 rfl (lv_at hl 10 rfl) ?_
                                refine lv_iload hx hb dL_tells_404 (lv_at hl 8 rfl) ?_
                                refine kCallRi (va_runS (As := [.ref (a 0), .int (nI i10)]) (rest := [.int (mX5_of S (nI i10) 8)]) ⟨hx, hb, hml, hown, hts⟩ (c_L_safety l E a r (nI i10) (by first | assumption | exact tOK.nI (by omega)) (by first | assumption | exact tOK.nI (by omega)) _ rfl) (va_cwS 2 hts gL_tells_L_safety rfl rfl rfl (by decide +kernel) ⟨Nat.le_of_ble_eq_true rfl, Nat.le_of_ble_eq_true rfl⟩) (kPreS hK hR) rfl rfl hl.1 rfl (lv_room (Nat.le_of_ble_eq_true rfl)) dL_tells_406 ⟨Nat.le_of_ble_eq_true rfl, Nat.le_of_ble_eq_true rfl⟩) ?_
                                refine lv_icmp_ne (tgt := 416) hx hb dL_tells_409 (by decide) (fun c_42 => ?_) (fun c_42 => ?_)
                                · replace hE := hE.trans (if_neg c_42)
                                  refine lv_iconst (v := 0) hx hb dL_tells_416 (by decide) ?_
                                  refine lv_istore (lv' := [(11, .int 0), (10, .int 2), (4, .int (x10_4 ||| 0)), (3, .int (x10_3 + (x34_8 * x34_9))), (2, .int (x10_2 + x34_8)), (9, .int x34_9), (8, .int x34_8), (7, .int x34_7), (6, .int x34_6), (5, .int (nI i10)), (0, .ref (ad 80)), (1, .ref (a 0))]) hx hb dL_tells_417 hl (by decide) rfl (fun ls hl => ?_)
                                  refine lv_iload hx hb dL_tells_419 (lv_at hl 0 rfl) ?_
                                  refine lv_if_eq (tgt := 456) hx hb dL_tells_421 (by decide) (fun _ => ?_) (fun c => absurd (by decide) c)
                                  refine lv_iconst (v := 0) hx hb dL_tells_456 (by decide) ?_
                                  subst R
                                  exact W.zret (v := 0) (ty := .boolean) hx hb hr rfl (fun t ht hW => ⟨rfl, by rw [ht]; exact hY, hS.F ht⟩) hS.2.2 dL_tells_457
                                · replace hE := hE.trans (if_pos c_42)
                                  refine lv_iconst (v := 1) hx hb dL_tells_412 (by decide) ?_
                                  refine lv_goto (tgt := 417) hx hb dL_tells_413 (by decide) ?_
                                  refine lv_istore (lv' := [(11, .int 1), (10, .int 2), (4, .int (x10_4 ||| 0)), (3, .int (x10_3 + (x34_8 * x34_9))), (2, .int (x10_2 + x34_8)), (9, .int x34_9), (8, .int x34_8), (7, .int x34_7), (6, .int x34_6), (5, .int (nI i10)), (0, .ref (ad 80)), (1, .ref (a 0))]) hx hb dL_tells_417 hl (by decide) rfl (fun ls hl => ?_)
                                  refine lv_iload hx hb dL_tells_419 (lv_at hl 0 rfl) ?_
                                  refine lv_if_eq (tgt := 456) hx hb dL_tells_421 (by decide) (fun c => absurd c (by decide)) (fun _ => ?_)
                                  refine lv_aload_n hx hb dL_tells_424 rfl (lv_at hl 10 rfl) ?_
                                  refine lv_iload hx hb dL_tells_425 (lv_at hl 9 rfl) ?_
                                  refine lv_bipush (v := 7) hx hb dL_tells_427 (by decide) ?_
                                  refine kCallRi (va_runV (As := [.int (nI i10), .int 7]) (rest := []) ⟨hx, hb, hml, hown, hts⟩ (c_X5_of l E ad S hs (nI i10) 7 (by assumption) _ rfl) (cwV 2 hts gL_tells_X5_of rfl rfl rfl (by decide +kernel) ⟨Nat.le_of_ble_eq_true rfl, Nat.le_of_ble_eq_true rfl⟩) (kPreYV hK hY.2.1 hY (q0 := 0) rfl rfl) rfl rfl hl.1 rfl (lv_room (Nat.le_of_ble_eq_true rfl)) dL_tells_429 ⟨Nat.le_of_ble_eq_true rfl, Nat.le_of_ble_eq_true rfl⟩) ?_
                                  refine lv_bipush (v := (-6)) hx hb dL_tells_432 (by decide) ?_
                                  refine lv_icmp_ne (tgt := 441) hx hb dL_tells_434 (by decide) (fun c_43 => ?_) (fun c_43 => ?_)
                                  · replace hE := hE.trans (if_neg c_43)
                                    refine lv_iconst (v := 0) hx hb dL_tells_441 (by decide) ?_
                                    refine lv_iload hx hb dL_tells_442 (lv_at hl 1 rfl) ?_
                                    refine lv_iconst (v := 2) hx hb dL_tells_444 (by decide) ?_
                                    refine lv_icmp_ge (tgt := 452) hx hb dL_tells_445 (by decide) (fun _ => ?_) (fun c => absurd (by decide) c)
                                    refine lv_iconst (v := 0) hx hb dL_tells_452 (by decide) ?_
                                    refine lv_icmp_eq (tgt := 458) hx hb dL_tells_453 (by decide) (fun _ => ?_) (fun c => absurd (by decide) c)
                                    refine lv_iinc (v := (nI (i10 + 1))) (lv' := [(5, .int (nI (i10 + 1))), (11, .int 1), (10, .int 2), (4, .int (x10_4 ||| 0)), (3, .int (x10_3 + (x34_8 * x34_9))), (2, .int (x10_2 + x34_8)), (9, .int x34_9), (8, .int x34_8), (7, .int x34_7), (6, .int x34_6), (0, .ref (ad 80)), (1, .ref (a 0))]) hx hb dL_tells_458 hl (k := 9) rfl (nI_1 i10) (by decide) rfl (fun ls hl => ?_)
                                    refine lv_goto (tgt := 10) hx hb dL_tells_461 (by decide) ?_
                                    exact ih10 (x10_2 + x34_8) (x10_3 + (x34_8 * x34_9)) (x10_4 ||| 0) (i10 + 1) (by omega) (by omega) ls (lv_sub hl [0, 3, 4, 5, 10, 11] rfl) hE
                                  · replace hE := hE.trans (if_pos c_43)
                                    refine lv_iconst (v := 1) hx hb dL_tells_437 (by decide) ?_
                                    refine lv_goto (tgt := 442) hx hb dL_tells_438 (by decide) ?_
                                    refine lv_iload hx hb dL_tells_442 (lv_at hl 1 rfl) ?_
                                    refine lv_iconst (v := 2) hx hb dL_tells_444 (by decide) ?_
                                    refine lv_icmp_ge (tgt := 452) hx hb dL_tells_445 (by decide) (fun _ => ?_) (fun c => absurd (by decide) c)
                                    refine lv_iconst (v := 0) hx hb dL_tells_452 (by decide) ?_
                                    refine lv_icmp_eq (tgt := 458) hx hb dL_tells_453 (by decide) (fun c => absurd c (by decide)) (fun _ => ?_)
                                    refine lv_iconst (v := 0) hx hb dL_tells_456 (by decide) ?_
                                    subst R
                                    exact W.zret (v := 0) (ty := .boolean) hx hb hr rfl (fun t ht hW => ⟨rfl, by rw [ht]; exact hY, hS.F ht⟩) hS.2.2 dL_tells_457
              · replace hE := hE.trans (if_neg c_14)
                refine lv_iconst (v := 1) hx hb dL_tells_240 (by decide) ?_
                refine lv_iload hx hb dL_tells_241 (lv_at hl 7 rfl) ?_
                refine lv_ishl hx hb dL_tells_243 ?_
                refine lv_goto (tgt := 248) hx hb dL_tells_244 (by decide) ?_
                refine lv_ior hx hb dL_tells_248 ?_
                refine lv_istore (lv' := [(4, .int (x10_4 ||| (1 <<< ((nI i10) &&& 31)))), (3, .int (x10_3 + (x34_8 * x34_9))), (2, .int (x10_2 + x34_8)), (10, .int (nI i34)), (9, .int x34_9), (8, .int x34_8), (7, .int x34_7), (6, .int x34_6), (5, .int (nI i10)), (0, .ref (ad 80)), (1, .ref (a 0))]) hx hb dL_tells_249 hl (by decide) rfl (fun ls hl => ?_)
                refine lv_aload_n hx hb dL_tells_251 rfl (lv_at hl 10 rfl) ?_
                refine lv_bipush (v := 12) hx hb dL_tells_252 (by decide) ?_
                refine lv_iload hx hb dL_tells_254 (lv_at hl 8 rfl) ?_
                refine lv_iadd hx hb dL_tells_256 ?_
                refine va_iald (D := E.1) hx hb hK.1 hR 0 0 rfl rfl (rIn 12 (by decide) (by first | assumption | exact tOK.nI (by omega))) dL_tells_257 ?_
                refine lv_if_ge (tgt := 265) hx hb dL_tells_258 (by decide) (fun c_44 => ?_) (fun c_44 => ?_)
                · replace hE := hE.trans (if_pos c_44)
                  refine lv_aload_n hx hb dL_tells_265 rfl (lv_at hl 10 rfl) ?_
                  refine lv_bipush (v := 12) hx hb dL_tells_266 (by decide) ?_
                  refine lv_iload hx hb dL_tells_268 (lv_at hl 8 rfl) ?_
                  refine lv_iadd hx hb dL_tells_270 ?_
                  refine va_iald (D := E.1) hx hb hK.1 hR 0 0 rfl rfl (rIn 12 (by decide) (by first | assumption | exact tOK.nI (by omega))) dL_tells_271 ?_
                  refine lv_if_le (tgt := 279) hx hb dL_tells_272 (by decide) (fun c_45 => ?_) (fun c_45 => ?_)
                  · replace hE := hE.trans (if_pos c_45)
                    refine lv_iconst (v := 0) hx hb dL_tells_279 (by decide) ?_
                    refine lv_istore (lv' := [(10, .int 0), (4, .int (x10_4 ||| (1 <<< ((nI i10) &&& 31)))), (3, .int (x10_3 + (x34_8 * x34_9))), (2, .int (x10_2 + x34_8)), (9, .int x34_9), (8, .int x34_8), (7, .int x34_7), (6, .int x34_6), (5, .int (nI i10)), (0, .ref (ad 80)), (1, .ref (a 0))]) hx hb dL_tells_280 hl (by decide) rfl (fun ls hl => ?_)
                    refine lv_aload_n hx hb dL_tells_282 rfl (lv_at hl 9 rfl) ?_
                    refine lv_iload hx hb dL_tells_283 (lv_at hl 8 rfl) ?_
                    refine lv_iconst (v := 0) hx hb dL_tells_285 (by decide) ?_
                    refine kCallRi (va_runV (As := [.int (nI i10), .int 0]) (rest := []) ⟨hx, hb, hml, hown, hts⟩ (c_X5_of l E ad S hs (nI i10) 0 (by assumption) _ rfl) (cwV 2 hts gL_tells_X5_of rfl rfl rfl (by decide +kernel) ⟨Nat.le_of_ble_eq_true rfl, Nat.le_of_ble_eq_true rfl⟩) (kPreYV hK hY.2.1 hY (q0 := 0) rfl rfl) rfl rfl hl.1 rfl (lv_room (Nat.le_of_ble_eq_true rfl)) dL_tells_286 ⟨Nat.le_of_ble_eq_true rfl, Nat.le_of_ble_eq_true rfl⟩) ?_
                    refine lv_iload hx hb dL_tells_289 (lv_at hl 0 rfl) ?_
                    refine lv_icmp_ne (tgt := 416) hx hb dL_tells_291 (by decide) (fun c_46 => ?_) (fun c_46 => ?_)
                    · replace hE := hE.trans (if_neg c_46)
                      refine lv_iconst (v := 0) hx hb dL_tells_416 (by decide) ?_
                      refine lv_istore (lv' := [(11, .int 0), (10, .int 0), (4, .int (x10_4 ||| (1 <<< ((nI i10) &&& 31)))), (3, .int (x10_3 + (x34_8 * x34_9))), (2, .int (x10_2 + x34_8)), (9, .int x34_9), (8, .int x34_8), (7, .int x34_7), (6, .int x34_6), (5, .int (nI i10)), (0, .ref (ad 80)), (1, .ref (a 0))]) hx hb dL_tells_417 hl (by decide) rfl (fun ls hl => ?_)
                      refine lv_iload hx hb dL_tells_419 (lv_at hl 0 rfl) ?_
                      refine lv_if_eq (tgt := 456) hx hb dL_tells_421 (by decide) (fun _ => ?_) (fun c => absurd (by decide) c)
                      refine lv_iconst (v := 0) hx hb dL_tells_456 (by decide) ?_
                      subst R
                      exact W.zret (v := 0) (ty := .boolean) hx hb hr rfl (fun t ht hW => ⟨rfl, by rw [ht]; exact hY, hS.F ht⟩) hS.2.2 dL_tells_457
                    · replace hE := hE.trans (if_pos c_46)
                      refine lv_aload_n hx hb dL_tells_294 rfl (lv_at hl 9 rfl) ?_
                      refine lv_iload hx hb dL_tells_295 (lv_at hl 8 rfl) ?_
                      refine lv_iconst (v := 1) hx hb dL_tells_297 (by decide) ?_
                      refine kCallRi (va_runV (As := [.int (nI i10), .int 1]) (rest := []) ⟨hx, hb, hml, hown, hts⟩ (c_X5_of l E ad S hs (nI i10) 1 (by assumption) _ rfl) (cwV 2 hts gL_tells_X5_of rfl rfl rfl (by decide +kernel) ⟨Nat.le_of_ble_eq_true rfl, Nat.le_of_ble_eq_true rfl⟩) (kPreYV hK hY.2.1 hY (q0 := 0) rfl rfl) rfl rfl hl.1 rfl (lv_room (Nat.le_of_ble_eq_true rfl)) dL_tells_298 ⟨Nat.le_of_ble_eq_true rfl, Nat.le_of_ble_eq_true rfl⟩) ?_
                      refine lv_aload_n hx hb dL_tells_301 rfl (lv_at hl 10 rfl) ?_
                      refine lv_iload hx hb dL_tells_302 (lv_at hl 8 rfl) ?_
                      refine va_iald (D := E.1) hx hb hK.1 hR 0 0 rfl rfl (rIn0 (by first | assumption | exact tOK.nI (by omega))) dL_tells_304 ?_
                      refine lv_icmp_ne (tgt := 416) hx hb dL_tells_305 (by decide) (fun c_47 => ?_) (fun c_47 => ?_)
                      · replace hE := hE.trans (if_neg c_47)
                        refine lv_iconst (v := 0) hx hb dL_tells_416 (by decide) ?_
                        refine lv_istore (lv' := [(11, .int 0), (10, .int 0), (4, .int (x10_4 ||| (1 <<< ((nI i10) &&& 31)))), (3, .int (x10_3 + (x34_8 * x34_9))), (2, .int (x10_2 + x34_8)), (9, .int x34_9), (8, .int x34_8), (7, .int x34_7), (6, .int x34_6), (5, .int (nI i10)), (0, .ref (ad 80)), (1, .ref (a 0))]) hx hb dL_tells_417 hl (by decide) rfl (fun ls hl => ?_)
                        refine lv_iload hx hb dL_tells_419 (lv_at hl 0 rfl) ?_
                        refine lv_if_eq (tgt := 456) hx hb dL_tells_421 (by decide) (fun _ => ?_) (fun c => absurd (by decide) c)
                        refine lv_iconst (v := 0) hx hb dL_tells_456 (by decide) ?_
                        subst R
                        exact W.zret (v := 0) (ty := .boolean) hx hb hr rfl (fun t ht hW => ⟨rfl, by rw [ht]; exact hY, hS.F ht⟩) hS.2.2 dL_tells_457
                      · replace hE := hE.trans (if_pos c_47)
                        refine lv_aload_n hx hb dL_tells_308 rfl (lv_at hl 9 rfl) ?_
                        refine lv_iload hx hb dL_tells_309 (lv_at hl 8 rfl) ?_
                        refine lv_iconst (v := 2) hx hb dL_tells_311 (by decide) ?_
                        refine kCallRi (va_runV (As := [.int (nI i10), .int 2]) (rest := []) ⟨hx, hb, hml, hown, hts⟩ (c_X5_of l E ad S hs (nI i10) 2 (by assumption) _ rfl) (cwV 2 hts gL_tells_X5_of rfl rfl rfl (by decide +kernel) ⟨Nat.le_of_ble_eq_true rfl, Nat.le_of_ble_eq_true rfl⟩) (kPreYV hK hY.2.1 hY (q0 := 0) rfl rfl) rfl rfl hl.1 rfl (lv_room (Nat.le_of_ble_eq_true rfl)) dL_tells_312 ⟨Nat.le_of_ble_eq_true rfl, Nat.le_of_ble_eq_true rfl⟩) ?_
                        refine lv_iload hx hb dL_tells_315 (lv_at hl 0 rfl) ?_
                        refine lv_iconst (v := 1) hx hb dL_tells_317 (by decide) ?_
                        refine lv_icmp_ne (tgt := 331) hx hb dL_tells_318 (by decide) (fun _ => ?_) (fun c => absurd c (by decide))
                        refine lv_bipush (v := (-6)) hx hb dL_tells_331 (by decide) ?_
                        refine lv_icmp_ne (tgt := 416) hx hb dL_tells_333 (by decide) (fun c_48 => ?_) (fun c_48 => ?_)
                        · replace hE := hE.trans (if_neg c_48)
                          refine lv_iconst (v := 0) hx hb dL_tells_416 (by decide) ?_
                          refine lv_istore (lv' := [(11, .int 0), (10, .int 0), (4, .int (x10_4 ||| (1 <<< ((nI i10) &&& 31)))), (3, .int (x10_3 + (x34_8 * x34_9))), (2, .int (x10_2 + x34_8)), (9, .int x34_9), (8, .int x34_8), (7, .int x34_7), (6, .int x34_6), (5, .int (nI i10)), (0, .ref (ad 80)), (1, .ref (a 0))]) hx hb dL_tells_417 hl (by decide) rfl (fun ls hl => ?_)
                          refine lv_iload hx hb dL_tells_419 (lv_at hl 0 rfl) ?_
                          refine lv_if_eq (tgt := 456) hx hb dL_tells_421 (by decide) (fun _ => ?_) (fun c => absurd (by decide) c)
                          refine lv_iconst (v := 0) hx hb dL_tells_456 (by decide) ?_
                          subst R
                          exact W.zret (v := 0) (ty := .boolean) hx hb hr rfl (fun t ht hW => ⟨rfl, by rw [ht]; exact hY, hS.F ht⟩) hS.2.2 dL_tells_457
                        · replace hE := hE.trans (if_pos c_48)
                          refine lv_aload_n hx hb dL_tells_336 rfl (lv_at hl 9 rfl) ?_
                          refine lv_iload hx hb dL_tells_337 (lv_at hl 8 rfl) ?_
                          refine lv_iconst (v := 3) hx hb dL_tells_339 (by decide) ?_
                          refine kCallRi (va_runV (As := [.int (nI i10), .int 3]) (rest := []) ⟨hx, hb, hml, hown, hts⟩ (c_X5_of l E ad S hs (nI i10) 3 (by assumption) _ rfl) (cwV 2 hts gL_tells_X5_of rfl rfl rfl (by decide +kernel) ⟨Nat.le_of_ble_eq_true rfl, Nat.le_of_ble_eq_true rfl⟩) (kPreYV hK hY.2.1 hY (q0 := 0) rfl rfl) rfl rfl hl.1 rfl (lv_room (Nat.le_of_ble_eq_true rfl)) dL_tells_340 ⟨Nat.le_of_ble_eq_true rfl, Nat.le_of_ble_eq_true rfl⟩) ?_
                          refine lv_aload_n hx hb dL_tells_343 rfl (lv_at hl 10 rfl) ?_
                          refine lv_bipush (v := 24) hx hb dL_tells_344 (by decide) ?_
                          refine lv_iload hx hb dL_tells_346 (lv_at hl 8 rfl) ?_
                          refine lv_iadd hx hb dL_tells_348 ?_
                          refine va_iald (D := E.1) hx hb hK.1 hR 0 0 rfl rfl (rIn 24 (by decide) (by first | assumption | exact tOK.nI (by omega))) dL_tells_349 ?_
                          refine lv_icmp_ne (tgt := 416) hx hb dL_tells_350 (by decide) (fun c_49 => ?_) (fun c_49 => ?_)
                          · replace hE := hE.trans (if_neg c_49)
                            refine lv_iconst (v := 0) hx hb dL_tells_416 (by decide) ?_
                            refine lv_istore (lv' := [(11, .int 0), (10, .int 0), (4, .int (x10_4 ||| (1 <<< ((nI i10) &&& 31)))), (3, .int (x10_3 + (x34_8 * x34_9))), (2, .int (x10_2 + x34_8)), (9, .int x34_9), (8, .int x34_8), (7, .int x34_7), (6, .int x34_6), (5, .int (nI i10)), (0, .ref (ad 80)), (1, .ref (a 0))]) hx hb dL_tells_417 hl (by decide) rfl (fun ls hl => ?_)
                            refine lv_iload hx hb dL_tells_419 (lv_at hl 0 rfl) ?_
                            refine lv_if_eq (tgt := 456) hx hb dL_tells_421 (by decide) (fun _ => ?_) (fun c => absurd (by decide) c)
                            refine lv_iconst (v := 0) hx hb dL_tells_456 (by decide) ?_
                            subst R
                            exact W.zret (v := 0) (ty := .boolean) hx hb hr rfl (fun t ht hW => ⟨rfl, by rw [ht]; exact hY, hS.F ht⟩) hS.2.2 dL_tells_457
                          · replace hE := hE.trans (if_pos c_49)
                            refine lv_aload_n hx hb dL_tells_353 rfl (lv_at hl 9 rfl) ?_
                            refine lv_iload hx hb dL_tells_354 (lv_at hl 8 rfl) ?_
                            refine lv_iconst (v := 4) hx hb dL_tells_356 (by decide) ?_
                            refine kCallRi (va_runV (As := [.int (nI i10), .int 4]) (rest := []) ⟨hx, hb, hml, hown, hts⟩ (c_X5_of l E ad S hs (nI i10) 4 (by assumption) _ rfl) (cwV 2 hts gL_tells_X5_of rfl rfl rfl (by decide +kernel) ⟨Nat.le_of_ble_eq_true rfl, Nat.le_of_ble_eq_true rfl⟩) (kPreYV hK hY.2.1 hY (q0 := 0) rfl rfl) rfl rfl hl.1 rfl (lv_room (Nat.le_of_ble_eq_true rfl)) dL_tells_357 ⟨Nat.le_of_ble_eq_true rfl, Nat.le_of_ble_eq_true rfl⟩) ?_
                            refine lv_aload_n hx hb dL_tells_360 rfl (lv_at hl 10 rfl) ?_
                            refine lv_bipush (v := 36) hx hb dL_tells_361 (by decide) ?_
                            refine lv_iload hx hb dL_tells_363 (lv_at hl 8 rfl) ?_
                            refine lv_iadd hx hb dL_tells_365 ?_
                            refine va_iald (D := E.1) hx hb hK.1 hR 0 0 rfl rfl (rIn 36 (by decide) (by first | assumption | exact tOK.nI (by omega))) dL_tells_366 ?_
                            refine lv_icmp_ne (tgt := 416) hx hb dL_tells_367 (by decide) (fun c_50 => ?_) (fun c_50 => ?_)
                            · replace hE := hE.trans (if_neg c_50)
                              refine lv_iconst (v := 0) hx hb dL_tells_416 (by decide) ?_
                              refine lv_istore (lv' := [(11, .int 0), (10, .int 0), (4, .int (x10_4 ||| (1 <<< ((nI i10) &&& 31)))), (3, .int (x10_3 + (x34_8 * x34_9))), (2, .int (x10_2 + x34_8)), (9, .int x34_9), (8, .int x34_8), (7, .int x34_7), (6, .int x34_6), (5, .int (nI i10)), (0, .ref (ad 80)), (1, .ref (a 0))]) hx hb dL_tells_417 hl (by decide) rfl (fun ls hl => ?_)
                              refine lv_iload hx hb dL_tells_419 (lv_at hl 0 rfl) ?_
                              refine lv_if_eq (tgt := 456) hx hb dL_tells_421 (by decide) (fun _ => ?_) (fun c => absurd (by decide) c)
                              refine lv_iconst (v := 0) hx hb dL_tells_456 (by decide) ?_
                              subst R
                              exact W.zret (v := 0) (ty := .boolean) hx hb hr rfl (fun t ht hW => ⟨rfl, by rw [ht]; exact hY, hS.F ht⟩) hS.2.2 dL_tells_457
                            · replace hE := hE.trans (if_pos c_50)
                              refine lv_aload_n hx hb dL_tells_370 rfl (lv_at hl 9 rfl) ?_
                              refine lv_iload hx hb dL_tells_371 (lv_at hl 8 rfl) ?_
                              refine lv_iconst (v := 5) hx hb dL_tells_373 (by decide) ?_
                              refine kCallRi (va_runV (As := [.int (nI i10), .int 5]) (rest := []) ⟨hx, hb, hml, hown, hts⟩ (c_X5_of l E ad S hs (nI i10) 5 (by assumption) _ rfl) (cwV 2 hts gL_tells_X5_of rfl rfl rfl (by decide +kernel) ⟨Nat.le_of_ble_eq_true rfl, Nat.le_of_ble_eq_true rfl⟩) (kPreYV hK hY.2.1 hY (q0 := 0) rfl rfl) rfl rfl hl.1 rfl (lv_room (Nat.le_of_ble_eq_true rfl)) dL_tells_374 ⟨Nat.le_of_ble_eq_true rfl, Nat.le_of_ble_eq_true rfl⟩) ?_
                              refine lv_iload hx hb dL_tells_377 (lv_at hl 7 rfl) ?_
                              refine lv_icmp_ne (tgt := 416) hx hb dL_tells_379 (by decide) (fun c_51 => ?_) (fun c_51 => ?_)
                              · replace hE := hE.trans (if_neg c_51)
                                refine lv_iconst (v := 0) hx hb dL_tells_416 (by decide) ?_
                                refine lv_istore (lv' := [(11, .int 0), (10, .int 0), (4, .int (x10_4 ||| (1 <<< ((nI i10) &&& 31)))), (3, .int (x10_3 + (x34_8 * x34_9))), (2, .int (x10_2 + x34_8)), (9, .int x34_9), (8, .int x34_8), (7, .int x34_7), (6, .int x34_6), (5, .int (nI i10)), (0, .ref (ad 80)), (1, .ref (a 0))]) hx hb dL_tells_417 hl (by decide) rfl (fun ls hl => ?_)
                                refine lv_iload hx hb dL_tells_419 (lv_at hl 0 rfl) ?_
                                refine lv_if_eq (tgt := 456) hx hb dL_tells_421 (by decide) (fun _ => ?_) (fun c => absurd (by decide) c)
                                refine lv_iconst (v := 0) hx hb dL_tells_456 (by decide) ?_
                                subst R
                                exact W.zret (v := 0) (ty := .boolean) hx hb hr rfl (fun t ht hW => ⟨rfl, by rw [ht]; exact hY, hS.F ht⟩) hS.2.2 dL_tells_457
                              · replace hE := hE.trans (if_pos c_51)
                                refine lv_aload_n hx hb dL_tells_382 rfl (lv_at hl 9 rfl) ?_
                                refine lv_iload hx hb dL_tells_383 (lv_at hl 8 rfl) ?_
                                refine lv_bipush (v := 6) hx hb dL_tells_385 (by decide) ?_
                                refine kCallRi (va_runV (As := [.int (nI i10), .int 6]) (rest := []) ⟨hx, hb, hml, hown, hts⟩ (c_X5_of l E ad S hs (nI i10) 6 (by assumption) _ rfl) (cwV 2 hts gL_tells_X5_of rfl rfl rfl (by decide +kernel) ⟨Nat.le_of_ble_eq_true rfl, Nat.le_of_ble_eq_true rfl⟩) (kPreYV hK hY.2.1 hY (q0 := 0) rfl rfl) rfl rfl hl.1 rfl (lv_room (Nat.le_of_ble_eq_true rfl)) dL_tells_387 ⟨Nat.le_of_ble_eq_true rfl, Nat.le_of_ble_eq_true rfl⟩) ?_
                                refine lv_iload hx hb dL_tells_390 (lv_at hl 6 rfl) ?_
                                refine lv_icmp_ne (tgt := 416) hx hb dL_tells_392 (by decide) (fun c_52 => ?_) (fun c_52 => ?_)
                                · replace hE := hE.trans (if_neg c_52)
                                  refine lv_iconst (v := 0) hx hb dL_tells_416 (by decide) ?_
                                  refine lv_istore (lv' := [(11, .int 0), (10, .int 0), (4, .int (x10_4 ||| (1 <<< ((nI i10) &&& 31)))), (3, .int (x10_3 + (x34_8 * x34_9))), (2, .int (x10_2 + x34_8)), (9, .int x34_9), (8, .int x34_8), (7, .int x34_7), (6, .int x34_6), (5, .int (nI i10)), (0, .ref (ad 80)), (1, .ref (a 0))]) hx hb dL_tells_417 hl (by decide) rfl (fun ls hl => ?_)
                                  refine lv_iload hx hb dL_tells_419 (lv_at hl 0 rfl) ?_
                                  refine lv_if_eq (tgt := 456) hx hb dL_tells_421 (by decide) (fun _ => ?_) (fun c => absurd (by decide) c)
                                  refine lv_iconst (v := 0) hx hb dL_tells_456 (by decide) ?_
                                  subst R
                                  exact W.zret (v := 0) (ty := .boolean) hx hb hr rfl (fun t ht hW => ⟨rfl, by rw [ht]; exact hY, hS.F ht⟩) hS.2.2 dL_tells_457
                                · replace hE := hE.trans (if_pos c_52)
                                  refine lv_aload_n hx hb dL_tells_395 rfl (lv_at hl 9 rfl) ?_
                                  refine lv_iload hx hb dL_tells_396 (lv_at hl 8 rfl) ?_
                                  refine lv_bipush (v := 8) hx hb dL_tells_398 (by decide) ?_
                                  refine kCallRi (va_runV (As := [.int (nI i10), .int 8]) (rest := []) ⟨hx, hb, hml, hown, hts⟩ (c_X5_of l E ad S hs (nI i10) 8 (by assumption) _ rfl) (cwV 2 hts gL_tells_X5_of rfl rfl rfl (by decide +kernel) ⟨Nat.le_of_ble_eq_true rfl, Nat.le_of_ble_eq_true rfl⟩) (kPreYV hK hY.2.1 hY (q0 := 0) rfl rfl) rfl rfl hl.1 rfl (lv_room (Nat.le_of_ble_eq_true rfl)) dL_tells_400 ⟨Nat.le_of_ble_eq_true rfl, Nat.le_of_ble_eq_true rfl⟩) ?_
                                  refine lv_aload_n hx hb dL_tells_403 rfl (lv_at hl 10 rfl) ?_
                                  refine lv_iload hx hb dL_tells_404 (lv_at hl 8 rfl) ?_
                                  refine kCallRi (va_runS (As := [.ref (a 0), .int (nI i10)]) (rest := [.int (mX5_of S (nI i10) 8)]) ⟨hx, hb, hml, hown, hts⟩ (c_L_safety l E a r (nI i10) (by first | assumption | exact tOK.nI (by omega)) (by first | assumption | exact tOK.nI (by omega)) _ rfl) (va_cwS 2 hts gL_tells_L_safety rfl rfl rfl (by decide +kernel) ⟨Nat.le_of_ble_eq_true rfl, Nat.le_of_ble_eq_true rfl⟩) (kPreS hK hR) rfl rfl hl.1 rfl (lv_room (Nat.le_of_ble_eq_true rfl)) dL_tells_406 ⟨Nat.le_of_ble_eq_true rfl, Nat.le_of_ble_eq_true rfl⟩) ?_
                                  refine lv_icmp_ne (tgt := 416) hx hb dL_tells_409 (by decide) (fun c_53 => ?_) (fun c_53 => ?_)
                                  · replace hE := hE.trans (if_neg c_53)
                                    refine lv_iconst (v := 0) hx hb dL_tells_416 (by decide) ?_
                                    refine lv_istore (lv' := [(11, .int 0), (10, .int 0), (4, .int (x10_4 ||| (1 <<< ((nI i10) &&& 31)))), (3, .int (x10_3 + (x34_8 * x34_9))), (2, .int (x10_2 + x34_8)), (9, .int x34_9), (8, .int x34_8), (7, .int x34_7), (6, .int x34_6), (5, .int (nI i10)), (0, .ref (ad 80)), (1, .ref (a 0))]) hx hb dL_tells_417 hl (by decide) rfl (fun ls hl => ?_)
                                    refine lv_iload hx hb dL_tells_419 (lv_at hl 0 rfl) ?_
                                    refine lv_if_eq (tgt := 456) hx hb dL_tells_421 (by decide) (fun _ => ?_) (fun c => absurd (by decide) c)
                                    refine lv_iconst (v := 0) hx hb dL_tells_456 (by decide) ?_
                                    subst R
                                    exact W.zret (v := 0) (ty := .boolean) hx hb hr rfl (fun t ht hW => ⟨rfl, by rw [ht]; exact hY, hS.F ht⟩) hS.2.2 dL_tells_457
                                  · replace hE := hE.trans (if_pos c_53)
                                    refine lv_iconst (v := 1) hx hb dL_tells_412 (by decide) ?_
                                    refine lv_goto (tgt := 417) hx hb dL_tells_413 (by decide) ?_
                                    refine lv_istore (lv' := [(11, .int 1), (10, .int 0), (4, .int (x10_4 ||| (1 <<< ((nI i10) &&& 31)))), (3, .int (x10_3 + (x34_8 * x34_9))), (2, .int (x10_2 + x34_8)), (9, .int x34_9), (8, .int x34_8), (7, .int x34_7), (6, .int x34_6), (5, .int (nI i10)), (0, .ref (ad 80)), (1, .ref (a 0))]) hx hb dL_tells_417 hl (by decide) rfl (fun ls hl => ?_)
                                    refine lv_iload hx hb dL_tells_419 (lv_at hl 0 rfl) ?_
                                    refine lv_if_eq (tgt := 456) hx hb dL_tells_421 (by decide) (fun c => absurd c (by decide)) (fun _ => ?_)
                                    refine lv_aload_n hx hb dL_tells_424 rfl (lv_at hl 10 rfl) ?_
                                    refine lv_iload hx hb dL_tells_425 (lv_at hl 9 rfl) ?_
                                    refine lv_bipush (v := 7) hx hb dL_tells_427 (by decide) ?_
                                    refine kCallRi (va_runV (As := [.int (nI i10), .int 7]) (rest := []) ⟨hx, hb, hml, hown, hts⟩ (c_X5_of l E ad S hs (nI i10) 7 (by assumption) _ rfl) (cwV 2 hts gL_tells_X5_of rfl rfl rfl (by decide +kernel) ⟨Nat.le_of_ble_eq_true rfl, Nat.le_of_ble_eq_true rfl⟩) (kPreYV hK hY.2.1 hY (q0 := 0) rfl rfl) rfl rfl hl.1 rfl (lv_room (Nat.le_of_ble_eq_true rfl)) dL_tells_429 ⟨Nat.le_of_ble_eq_true rfl, Nat.le_of_ble_eq_true rfl⟩) ?_
                                    refine lv_bipush (v := (-6)) hx hb dL_tells_432 (by decide) ?_
                                    refine lv_icmp_ne (tgt := 441) hx hb dL_tells_434 (by decide) (fun c_54 => ?_) (fun c_54 => ?_)
                                    · replace hE := hE.trans (if_neg c_54)
                                      refine lv_iconst (v := 0) hx hb dL_tells_441 (by decide) ?_
                                      refine lv_iload hx hb dL_tells_442 (lv_at hl 1 rfl) ?_
                                      refine lv_iconst (v := 2) hx hb dL_tells_444 (by decide) ?_
                                      refine lv_icmp_ge (tgt := 452) hx hb dL_tells_445 (by decide) (fun c => absurd c (by decide)) (fun _ => ?_)
                                      refine lv_iconst (v := 1) hx hb dL_tells_448 (by decide) ?_
                                      refine lv_goto (tgt := 453) hx hb dL_tells_449 (by decide) ?_
                                      refine lv_icmp_eq (tgt := 458) hx hb dL_tells_453 (by decide) (fun c => absurd c (by decide)) (fun _ => ?_)
                                      refine lv_iconst (v := 0) hx hb dL_tells_456 (by decide) ?_
                                      subst R
                                      exact W.zret (v := 0) (ty := .boolean) hx hb hr rfl (fun t ht hW => ⟨rfl, by rw [ht]; exact hY, hS.F ht⟩) hS.2.2 dL_tells_457
                                    · replace hE := hE.trans (if_pos c_54)
                                      refine lv_iconst (v := 1) hx hb dL_tells_437 (by decide) ?_
                                      refine lv_goto (tgt := 442) hx hb dL_tells_438 (by decide) ?_
                                      refine lv_iload hx hb dL_tells_442 (lv_at hl 1 rfl) ?_
                                      refine lv_iconst (v := 2) hx hb dL_tells_444 (by decide) ?_
                                      refine lv_icmp_ge (tgt := 452) hx hb dL_tells_445 (by decide) (fun c => absurd c (by decide)) (fun _ => ?_)
                                      refine lv_iconst (v := 1) hx hb dL_tells_448 (by decide) ?_
                                      refine lv_goto (tgt := 453) hx hb dL_tells_449 (by decide) ?_
                                      refine lv_icmp_eq (tgt := 458) hx hb dL_tells_453 (by decide) (fun _ => ?_) (fun c => absurd (by decide) c)
                                      refine lv_iinc (v := (nI (i10 + 1))) (lv' := [(5, .int (nI (i10 + 1))), (11, .int 1), (10, .int 0), (4, .int (x10_4 ||| (1 <<< ((nI i10) &&& 31)))), (3, .int (x10_3 + (x34_8 * x34_9))), (2, .int (x10_2 + x34_8)), (9, .int x34_9), (8, .int x34_8), (7, .int x34_7), (6, .int x34_6), (0, .ref (ad 80)), (1, .ref (a 0))]) hx hb dL_tells_458 hl (k := 9) rfl (nI_1 i10) (by decide) rfl (fun ls hl => ?_)
                                      refine lv_goto (tgt := 10) hx hb dL_tells_461 (by decide) ?_
                                      exact ih10 (x10_2 + x34_8) (x10_3 + (x34_8 * x34_9)) (x10_4 ||| (1 <<< ((nI i10) &&& 31))) (i10 + 1) (by omega) (by omega) ls (lv_sub hl [0, 3, 4, 5, 10, 11] rfl) hE
                  · replace hE := hE.trans (if_neg c_45)
                    refine lv_iconst (v := 1) hx hb dL_tells_275 (by decide) ?_
                    refine lv_goto (tgt := 280) hx hb dL_tells_276 (by decide) ?_
                    refine lv_istore (lv' := [(10, .int 1), (4, .int (x10_4 ||| (1 <<< ((nI i10) &&& 31)))), (3, .int (x10_3 + (x34_8 * x34_9))), (2, .int (x10_2 + x34_8)), (9, .int x34_9), (8, .int x34_8), (7, .int x34_7), (6, .int x34_6), (5, .int (nI i10)), (0, .ref (ad 80)), (1, .ref (a 0))]) hx hb dL_tells_280 hl (by decide) rfl (fun ls hl => ?_)
                    refine lv_aload_n hx hb dL_tells_282 rfl (lv_at hl 9 rfl) ?_
                    refine lv_iload hx hb dL_tells_283 (lv_at hl 8 rfl) ?_
                    refine lv_iconst (v := 0) hx hb dL_tells_285 (by decide) ?_
                    refine kCallRi (va_runV (As := [.int (nI i10), .int 0]) (rest := []) ⟨hx, hb, hml, hown, hts⟩ (c_X5_of l E ad S hs (nI i10) 0 (by assumption) _ rfl) (cwV 2 hts gL_tells_X5_of rfl rfl rfl (by decide +kernel) ⟨Nat.le_of_ble_eq_true rfl, Nat.le_of_ble_eq_true rfl⟩) (kPreYV hK hY.2.1 hY (q0 := 0) rfl rfl) rfl rfl hl.1 rfl (lv_room (Nat.le_of_ble_eq_true rfl)) dL_tells_286 ⟨Nat.le_of_ble_eq_true rfl, Nat.le_of_ble_eq_true rfl⟩) ?_
                    refine lv_iload hx hb dL_tells_289 (lv_at hl 0 rfl) ?_
                    refine lv_icmp_ne (tgt := 416) hx hb dL_tells_291 (by decide) (fun c_55 => ?_) (fun c_55 => ?_)
                    · replace hE := hE.trans (if_neg c_55)
                      refine lv_iconst (v := 0) hx hb dL_tells_416 (by decide) ?_
                      refine lv_istore (lv' := [(11, .int 0), (10, .int 1), (4, .int (x10_4 ||| (1 <<< ((nI i10) &&& 31)))), (3, .int (x10_3 + (x34_8 * x34_9))), (2, .int (x10_2 + x34_8)), (9, .int x34_9), (8, .int x34_8), (7, .int x34_7), (6, .int x34_6), (5, .int (nI i10)), (0, .ref (ad 80)), (1, .ref (a 0))]) hx hb dL_tells_417 hl (by decide) rfl (fun ls hl => ?_)
                      refine lv_iload hx hb dL_tells_419 (lv_at hl 0 rfl) ?_
                      refine lv_if_eq (tgt := 456) hx hb dL_tells_421 (by decide) (fun _ => ?_) (fun c => absurd (by decide) c)
                      refine lv_iconst (v := 0) hx hb dL_tells_456 (by decide) ?_
                      subst R
                      exact W.zret (v := 0) (ty := .boolean) hx hb hr rfl (fun t ht hW => ⟨rfl, by rw [ht]; exact hY, hS.F ht⟩) hS.2.2 dL_tells_457
                    · replace hE := hE.trans (if_pos c_55)
                      refine lv_aload_n hx hb dL_tells_294 rfl (lv_at hl 9 rfl) ?_
                      refine lv_iload hx hb dL_tells_295 (lv_at hl 8 rfl) ?_
                      refine lv_iconst (v := 1) hx hb dL_tells_297 (by decide) ?_
                      refine kCallRi (va_runV (As := [.int (nI i10), .int 1]) (rest := []) ⟨hx, hb, hml, hown, hts⟩ (c_X5_of l E ad S hs (nI i10) 1 (by assumption) _ rfl) (cwV 2 hts gL_tells_X5_of rfl rfl rfl (by decide +kernel) ⟨Nat.le_of_ble_eq_true rfl, Nat.le_of_ble_eq_true rfl⟩) (kPreYV hK hY.2.1 hY (q0 := 0) rfl rfl) rfl rfl hl.1 rfl (lv_room (Nat.le_of_ble_eq_true rfl)) dL_tells_298 ⟨Nat.le_of_ble_eq_true rfl, Nat.le_of_ble_eq_true rfl⟩) ?_
                      refine lv_aload_n hx hb dL_tells_301 rfl (lv_at hl 10 rfl) ?_
                      refine lv_iload hx hb dL_tells_302 (lv_at hl 8 rfl) ?_
                      refine va_iald (D := E.1) hx hb hK.1 hR 0 0 rfl rfl (rIn0 (by first | assumption | exact tOK.nI (by omega))) dL_tells_304 ?_
                      refine lv_icmp_ne (tgt := 416) hx hb dL_tells_305 (by decide) (fun c_56 => ?_) (fun c_56 => ?_)
                      · replace hE := hE.trans (if_neg c_56)
                        refine lv_iconst (v := 0) hx hb dL_tells_416 (by decide) ?_
                        refine lv_istore (lv' := [(11, .int 0), (10, .int 1), (4, .int (x10_4 ||| (1 <<< ((nI i10) &&& 31)))), (3, .int (x10_3 + (x34_8 * x34_9))), (2, .int (x10_2 + x34_8)), (9, .int x34_9), (8, .int x34_8), (7, .int x34_7), (6, .int x34_6), (5, .int (nI i10)), (0, .ref (ad 80)), (1, .ref (a 0))]) hx hb dL_tells_417 hl (by decide) rfl (fun ls hl => ?_)
                        refine lv_iload hx hb dL_tells_419 (lv_at hl 0 rfl) ?_
                        refine lv_if_eq (tgt := 456) hx hb dL_tells_421 (by decide) (fun _ => ?_) (fun c => absurd (by decide) c)
                        refine lv_iconst (v := 0) hx hb dL_tells_456 (by decide) ?_
                        subst R
                        exact W.zret (v := 0) (ty := .boolean) hx hb hr rfl (fun t ht hW => ⟨rfl, by rw [ht]; exact hY, hS.F ht⟩) hS.2.2 dL_tells_457
                      · replace hE := hE.trans (if_pos c_56)
                        refine lv_aload_n hx hb dL_tells_308 rfl (lv_at hl 9 rfl) ?_
                        refine lv_iload hx hb dL_tells_309 (lv_at hl 8 rfl) ?_
                        refine lv_iconst (v := 2) hx hb dL_tells_311 (by decide) ?_
                        refine kCallRi (va_runV (As := [.int (nI i10), .int 2]) (rest := []) ⟨hx, hb, hml, hown, hts⟩ (c_X5_of l E ad S hs (nI i10) 2 (by assumption) _ rfl) (cwV 2 hts gL_tells_X5_of rfl rfl rfl (by decide +kernel) ⟨Nat.le_of_ble_eq_true rfl, Nat.le_of_ble_eq_true rfl⟩) (kPreYV hK hY.2.1 hY (q0 := 0) rfl rfl) rfl rfl hl.1 rfl (lv_room (Nat.le_of_ble_eq_true rfl)) dL_tells_312 ⟨Nat.le_of_ble_eq_true rfl, Nat.le_of_ble_eq_true rfl⟩) ?_
                        refine lv_iload hx hb dL_tells_315 (lv_at hl 0 rfl) ?_
                        refine lv_iconst (v := 1) hx hb dL_tells_317 (by decide) ?_
                        refine lv_icmp_ne (tgt := 331) hx hb dL_tells_318 (by decide) (fun c => absurd rfl c) (fun _ => ?_)
                        refine lv_aload_n hx hb dL_tells_321 rfl (lv_at hl 10 rfl) ?_
                        refine lv_bipush (v := 12) hx hb dL_tells_322 (by decide) ?_
                        refine lv_iload hx hb dL_tells_324 (lv_at hl 8 rfl) ?_
                        refine lv_iadd hx hb dL_tells_326 ?_
                        refine va_iald (D := E.1) hx hb hK.1 hR 0 0 rfl rfl (rIn 12 (by decide) (by first | assumption | exact tOK.nI (by omega))) dL_tells_327 ?_
                        refine lv_goto (tgt := 333) hx hb dL_tells_328 (by decide) ?_
                        refine lv_icmp_ne (tgt := 416) hx hb dL_tells_333 (by decide) (fun c_57 => ?_) (fun c_57 => ?_)
                        · replace hE := hE.trans (if_neg c_57)
                          refine lv_iconst (v := 0) hx hb dL_tells_416 (by decide) ?_
                          refine lv_istore (lv' := [(11, .int 0), (10, .int 1), (4, .int (x10_4 ||| (1 <<< ((nI i10) &&& 31)))), (3, .int (x10_3 + (x34_8 * x34_9))), (2, .int (x10_2 + x34_8)), (9, .int x34_9), (8, .int x34_8), (7, .int x34_7), (6, .int x34_6), (5, .int (nI i10)), (0, .ref (ad 80)), (1, .ref (a 0))]) hx hb dL_tells_417 hl (by decide) rfl (fun ls hl => ?_)
                          refine lv_iload hx hb dL_tells_419 (lv_at hl 0 rfl) ?_
                          refine lv_if_eq (tgt := 456) hx hb dL_tells_421 (by decide) (fun _ => ?_) (fun c => absurd (by decide) c)
                          refine lv_iconst (v := 0) hx hb dL_tells_456 (by decide) ?_
                          subst R
                          exact W.zret (v := 0) (ty := .boolean) hx hb hr rfl (fun t ht hW => ⟨rfl, by rw [ht]; exact hY, hS.F ht⟩) hS.2.2 dL_tells_457
                        · replace hE := hE.trans (if_pos c_57)
                          refine lv_aload_n hx hb dL_tells_336 rfl (lv_at hl 9 rfl) ?_
                          refine lv_iload hx hb dL_tells_337 (lv_at hl 8 rfl) ?_
                          refine lv_iconst (v := 3) hx hb dL_tells_339 (by decide) ?_
                          refine kCallRi (va_runV (As := [.int (nI i10), .int 3]) (rest := []) ⟨hx, hb, hml, hown, hts⟩ (c_X5_of l E ad S hs (nI i10) 3 (by assumption) _ rfl) (cwV 2 hts gL_tells_X5_of rfl rfl rfl (by decide +kernel) ⟨Nat.le_of_ble_eq_true rfl, Nat.le_of_ble_eq_true rfl⟩) (kPreYV hK hY.2.1 hY (q0 := 0) rfl rfl) rfl rfl hl.1 rfl (lv_room (Nat.le_of_ble_eq_true rfl)) dL_tells_340 ⟨Nat.le_of_ble_eq_true rfl, Nat.le_of_ble_eq_true rfl⟩) ?_
                          refine lv_aload_n hx hb dL_tells_343 rfl (lv_at hl 10 rfl) ?_
                          refine lv_bipush (v := 24) hx hb dL_tells_344 (by decide) ?_
                          refine lv_iload hx hb dL_tells_346 (lv_at hl 8 rfl) ?_
                          refine lv_iadd hx hb dL_tells_348 ?_
                          refine va_iald (D := E.1) hx hb hK.1 hR 0 0 rfl rfl (rIn 24 (by decide) (by first | assumption | exact tOK.nI (by omega))) dL_tells_349 ?_
                          refine lv_icmp_ne (tgt := 416) hx hb dL_tells_350 (by decide) (fun c_58 => ?_) (fun c_58 => ?_)
                          · replace hE := hE.trans (if_neg c_58)
                            refine lv_iconst (v := 0) hx hb dL_tells_416 (by decide) ?_
                            refine lv_istore (lv' := [(11, .int 0), (10, .int 1), (4, .int (x10_4 ||| (1 <<< ((nI i10) &&& 31)))), (3, .int (x10_3 + (x34_8 * x34_9))), (2, .int (x10_2 + x34_8)), (9, .int x34_9), (8, .int x34_8), (7, .int x34_7), (6, .int x34_6), (5, .int (nI i10)), (0, .ref (ad 80)), (1, .ref (a 0))]) hx hb dL_tells_417 hl (by decide) rfl (fun ls hl => ?_)
                            refine lv_iload hx hb dL_tells_419 (lv_at hl 0 rfl) ?_
                            refine lv_if_eq (tgt := 456) hx hb dL_tells_421 (by decide) (fun _ => ?_) (fun c => absurd (by decide) c)
                            refine lv_iconst (v := 0) hx hb dL_tells_456 (by decide) ?_
                            subst R
                            exact W.zret (v := 0) (ty := .boolean) hx hb hr rfl (fun t ht hW => ⟨rfl, by rw [ht]; exact hY, hS.F ht⟩) hS.2.2 dL_tells_457
                          · replace hE := hE.trans (if_pos c_58)
                            refine lv_aload_n hx hb dL_tells_353 rfl (lv_at hl 9 rfl) ?_
                            refine lv_iload hx hb dL_tells_354 (lv_at hl 8 rfl) ?_
                            refine lv_iconst (v := 4) hx hb dL_tells_356 (by decide) ?_
                            refine kCallRi (va_runV (As := [.int (nI i10), .int 4]) (rest := []) ⟨hx, hb, hml, hown, hts⟩ (c_X5_of l E ad S hs (nI i10) 4 (by assumption) _ rfl) (cwV 2 hts gL_tells_X5_of rfl rfl rfl (by decide +kernel) ⟨Nat.le_of_ble_eq_true rfl, Nat.le_of_ble_eq_true rfl⟩) (kPreYV hK hY.2.1 hY (q0 := 0) rfl rfl) rfl rfl hl.1 rfl (lv_room (Nat.le_of_ble_eq_true rfl)) dL_tells_357 ⟨Nat.le_of_ble_eq_true rfl, Nat.le_of_ble_eq_true rfl⟩) ?_
                            refine lv_aload_n hx hb dL_tells_360 rfl (lv_at hl 10 rfl) ?_
                            refine lv_bipush (v := 36) hx hb dL_tells_361 (by decide) ?_
                            refine lv_iload hx hb dL_tells_363 (lv_at hl 8 rfl) ?_
                            refine lv_iadd hx hb dL_tells_365 ?_
                            refine va_iald (D := E.1) hx hb hK.1 hR 0 0 rfl rfl (rIn 36 (by decide) (by first | assumption | exact tOK.nI (by omega))) dL_tells_366 ?_
                            refine lv_icmp_ne (tgt := 416) hx hb dL_tells_367 (by decide) (fun c_59 => ?_) (fun c_59 => ?_)
                            · replace hE := hE.trans (if_neg c_59)
                              refine lv_iconst (v := 0) hx hb dL_tells_416 (by decide) ?_
                              refine lv_istore (lv' := [(11, .int 0), (10, .int 1), (4, .int (x10_4 ||| (1 <<< ((nI i10) &&& 31)))), (3, .int (x10_3 + (x34_8 * x34_9))), (2, .int (x10_2 + x34_8)), (9, .int x34_9), (8, .int x34_8), (7, .int x34_7), (6, .int x34_6), (5, .int (nI i10)), (0, .ref (ad 80)), (1, .ref (a 0))]) hx hb dL_tells_417 hl (by decide) rfl (fun ls hl => ?_)
                              refine lv_iload hx hb dL_tells_419 (lv_at hl 0 rfl) ?_
                              refine lv_if_eq (tgt := 456) hx hb dL_tells_421 (by decide) (fun _ => ?_) (fun c => absurd (by decide) c)
                              refine lv_iconst (v := 0) hx hb dL_tells_456 (by decide) ?_
                              subst R
                              exact W.zret (v := 0) (ty := .boolean) hx hb hr rfl (fun t ht hW => ⟨rfl, by rw [ht]; exact hY, hS.F ht⟩) hS.2.2 dL_tells_457
                            · replace hE := hE.trans (if_pos c_59)
                              refine lv_aload_n hx hb dL_tells_370 rfl (lv_at hl 9 rfl) ?_
                              refine lv_iload hx hb dL_tells_371 (lv_at hl 8 rfl) ?_
                              refine lv_iconst (v := 5) hx hb dL_tells_373 (by decide) ?_
                              refine kCallRi (va_runV (As := [.int (nI i10), .int 5]) (rest := []) ⟨hx, hb, hml, hown, hts⟩ (c_X5_of l E ad S hs (nI i10) 5 (by assumption) _ rfl) (cwV 2 hts gL_tells_X5_of rfl rfl rfl (by decide +kernel) ⟨Nat.le_of_ble_eq_true rfl, Nat.le_of_ble_eq_true rfl⟩) (kPreYV hK hY.2.1 hY (q0 := 0) rfl rfl) rfl rfl hl.1 rfl (lv_room (Nat.le_of_ble_eq_true rfl)) dL_tells_374 ⟨Nat.le_of_ble_eq_true rfl, Nat.le_of_ble_eq_true rfl⟩) ?_
                              refine lv_iload hx hb dL_tells_377 (lv_at hl 7 rfl) ?_
                              refine lv_icmp_ne (tgt := 416) hx hb dL_tells_379 (by decide) (fun c_60 => ?_) (fun c_60 => ?_)
                              · replace hE := hE.trans (if_neg c_60)
                                refine lv_iconst (v := 0) hx hb dL_tells_416 (by decide) ?_
                                refine lv_istore (lv' := [(11, .int 0), (10, .int 1), (4, .int (x10_4 ||| (1 <<< ((nI i10) &&& 31)))), (3, .int (x10_3 + (x34_8 * x34_9))), (2, .int (x10_2 + x34_8)), (9, .int x34_9), (8, .int x34_8), (7, .int x34_7), (6, .int x34_6), (5, .int (nI i10)), (0, .ref (ad 80)), (1, .ref (a 0))]) hx hb dL_tells_417 hl (by decide) rfl (fun ls hl => ?_)
                                refine lv_iload hx hb dL_tells_419 (lv_at hl 0 rfl) ?_
                                refine lv_if_eq (tgt := 456) hx hb dL_tells_421 (by decide) (fun _ => ?_) (fun c => absurd (by decide) c)
                                refine lv_iconst (v := 0) hx hb dL_tells_456 (by decide) ?_
                                subst R
                                exact W.zret (v := 0) (ty := .boolean) hx hb hr rfl (fun t ht hW => ⟨rfl, by rw [ht]; exact hY, hS.F ht⟩) hS.2.2 dL_tells_457
                              · replace hE := hE.trans (if_pos c_60)
                                refine lv_aload_n hx hb dL_tells_382 rfl (lv_at hl 9 rfl) ?_
                                refine lv_iload hx hb dL_tells_383 (lv_at hl 8 rfl) ?_
                                refine lv_bipush (v := 6) hx hb dL_tells_385 (by decide) ?_
                                refine kCallRi (va_runV (As := [.int (nI i10), .int 6]) (rest := []) ⟨hx, hb, hml, hown, hts⟩ (c_X5_of l E ad S hs (nI i10) 6 (by assumption) _ rfl) (cwV 2 hts gL_tells_X5_of rfl rfl rfl (by decide +kernel) ⟨Nat.le_of_ble_eq_true rfl, Nat.le_of_ble_eq_true rfl⟩) (kPreYV hK hY.2.1 hY (q0 := 0) rfl rfl) rfl rfl hl.1 rfl (lv_room (Nat.le_of_ble_eq_true rfl)) dL_tells_387 ⟨Nat.le_of_ble_eq_true rfl, Nat.le_of_ble_eq_true rfl⟩) ?_
                                refine lv_iload hx hb dL_tells_390 (lv_at hl 6 rfl) ?_
                                refine lv_icmp_ne (tgt := 416) hx hb dL_tells_392 (by decide) (fun c_61 => ?_) (fun c_61 => ?_)
                                · replace hE := hE.trans (if_neg c_61)
                                  refine lv_iconst (v := 0) hx hb dL_tells_416 (by decide) ?_
                                  refine lv_istore (lv' := [(11, .int 0), (10, .int 1), (4, .int (x10_4 ||| (1 <<< ((nI i10) &&& 31)))), (3, .int (x10_3 + (x34_8 * x34_9))), (2, .int (x10_2 + x34_8)), (9, .int x34_9), (8, .int x34_8), (7, .int x34_7), (6, .int x34_6), (5, .int (nI i10)), (0, .ref (ad 80)), (1, .ref (a 0))]) hx hb dL_tells_417 hl (by decide) rfl (fun ls hl => ?_)
                                  refine lv_iload hx hb dL_tells_419 (lv_at hl 0 rfl) ?_
                                  refine lv_if_eq (tgt := 456) hx hb dL_tells_421 (by decide) (fun _ => ?_) (fun c => absurd (by decide) c)
                                  refine lv_iconst (v := 0) hx hb dL_tells_456 (by decide) ?_
                                  subst R
                                  exact W.zret (v := 0) (ty := .boolean) hx hb hr rfl (fun t ht hW => ⟨rfl, by rw [ht]; exact hY, hS.F ht⟩) hS.2.2 dL_tells_457
                                · replace hE := hE.trans (if_pos c_61)
                                  refine lv_aload_n hx hb dL_tells_395 rfl (lv_at hl 9 rfl) ?_
                                  refine lv_iload hx hb dL_tells_396 (lv_at hl 8 rfl) ?_
                                  refine lv_bipush (v := 8) hx hb dL_tells_398 (by decide) ?_
                                  refine kCallRi (va_runV (As := [.int (nI i10), .int 8]) (rest := []) ⟨hx, hb, hml, hown, hts⟩ (c_X5_of l E ad S hs (nI i10) 8 (by assumption) _ rfl) (cwV 2 hts gL_tells_X5_of rfl rfl rfl (by decide +kernel) ⟨Nat.le_of_ble_eq_true rfl, Nat.le_of_ble_eq_true rfl⟩) (kPreYV hK hY.2.1 hY (q0 := 0) rfl rfl) rfl rfl hl.1 rfl (lv_room (Nat.le_of_ble_eq_true rfl)) dL_tells_400 ⟨Nat.le_of_ble_eq_true rfl, Nat.le_of_ble_eq_true rfl⟩) ?_
                                  refine lv_aload_n hx hb dL_tells_403 rfl (lv_at hl 10 rfl) ?_
                                  refine lv_iload hx hb dL_tells_404 (lv_at hl 8 rfl) ?_
                                  refine kCallRi (va_runS (As := [.ref (a 0), .int (nI i10)]) (rest := [.int (mX5_of S (nI i10) 8)]) ⟨hx, hb, hml, hown, hts⟩ (c_L_safety l E a r (nI i10) (by first | assumption | exact tOK.nI (by omega)) (by first | assumption | exact tOK.nI (by omega)) _ rfl) (va_cwS 2 hts gL_tells_L_safety rfl rfl rfl (by decide +kernel) ⟨Nat.le_of_ble_eq_true rfl, Nat.le_of_ble_eq_true rfl⟩) (kPreS hK hR) rfl rfl hl.1 rfl (lv_room (Nat.le_of_ble_eq_true rfl)) dL_tells_406 ⟨Nat.le_of_ble_eq_true rfl, Nat.le_of_ble_eq_true rfl⟩) ?_
                                  refine lv_icmp_ne (tgt := 416) hx hb dL_tells_409 (by decide) (fun c_62 => ?_) (fun c_62 => ?_)
                                  · replace hE := hE.trans (if_neg c_62)
                                    refine lv_iconst (v := 0) hx hb dL_tells_416 (by decide) ?_
                                    refine lv_istore (lv' := [(11, .int 0), (10, .int 1), (4, .int (x10_4 ||| (1 <<< ((nI i10) &&& 31)))), (3, .int (x10_3 + (x34_8 * x34_9))), (2, .int (x10_2 + x34_8)), (9, .int x34_9), (8, .int x34_8), (7, .int x34_7), (6, .int x34_6), (5, .int (nI i10)), (0, .ref (ad 80)), (1, .ref (a 0))]) hx hb dL_tells_417 hl (by decide) rfl (fun ls hl => ?_)
                                    refine lv_iload hx hb dL_tells_419 (lv_at hl 0 rfl) ?_
                                    refine lv_if_eq (tgt := 456) hx hb dL_tells_421 (by decide) (fun _ => ?_) (fun c => absurd (by decide) c)
                                    refine lv_iconst (v := 0) hx hb dL_tells_456 (by decide) ?_
                                    subst R
                                    exact W.zret (v := 0) (ty := .boolean) hx hb hr rfl (fun t ht hW => ⟨rfl, by rw [ht]; exact hY, hS.F ht⟩) hS.2.2 dL_tells_457
                                  · replace hE := hE.trans (if_pos c_62)
                                    refine lv_iconst (v := 1) hx hb dL_tells_412 (by decide) ?_
                                    refine lv_goto (tgt := 417) hx hb dL_tells_413 (by decide) ?_
                                    refine lv_istore (lv' := [(11, .int 1), (10, .int 1), (4, .int (x10_4 ||| (1 <<< ((nI i10) &&& 31)))), (3, .int (x10_3 + (x34_8 * x34_9))), (2, .int (x10_2 + x34_8)), (9, .int x34_9), (8, .int x34_8), (7, .int x34_7), (6, .int x34_6), (5, .int (nI i10)), (0, .ref (ad 80)), (1, .ref (a 0))]) hx hb dL_tells_417 hl (by decide) rfl (fun ls hl => ?_)
                                    refine lv_iload hx hb dL_tells_419 (lv_at hl 0 rfl) ?_
                                    refine lv_if_eq (tgt := 456) hx hb dL_tells_421 (by decide) (fun c => absurd c (by decide)) (fun _ => ?_)
                                    refine lv_aload_n hx hb dL_tells_424 rfl (lv_at hl 10 rfl) ?_
                                    refine lv_iload hx hb dL_tells_425 (lv_at hl 9 rfl) ?_
                                    refine lv_bipush (v := 7) hx hb dL_tells_427 (by decide) ?_
                                    refine kCallRi (va_runV (As := [.int (nI i10), .int 7]) (rest := []) ⟨hx, hb, hml, hown, hts⟩ (c_X5_of l E ad S hs (nI i10) 7 (by assumption) _ rfl) (cwV 2 hts gL_tells_X5_of rfl rfl rfl (by decide +kernel) ⟨Nat.le_of_ble_eq_true rfl, Nat.le_of_ble_eq_true rfl⟩) (kPreYV hK hY.2.1 hY (q0 := 0) rfl rfl) rfl rfl hl.1 rfl (lv_room (Nat.le_of_ble_eq_true rfl)) dL_tells_429 ⟨Nat.le_of_ble_eq_true rfl, Nat.le_of_ble_eq_true rfl⟩) ?_
                                    refine lv_bipush (v := (-6)) hx hb dL_tells_432 (by decide) ?_
                                    refine lv_icmp_ne (tgt := 441) hx hb dL_tells_434 (by decide) (fun c_63 => ?_) (fun c_63 => ?_)
                                    · replace hE := hE.trans (if_neg c_63)
                                      refine lv_iconst (v := 0) hx hb dL_tells_441 (by decide) ?_
                                      refine lv_iload hx hb dL_tells_442 (lv_at hl 1 rfl) ?_
                                      refine lv_iconst (v := 2) hx hb dL_tells_444 (by decide) ?_
                                      refine lv_icmp_ge (tgt := 452) hx hb dL_tells_445 (by decide) (fun c => absurd c (by decide)) (fun _ => ?_)
                                      refine lv_iconst (v := 1) hx hb dL_tells_448 (by decide) ?_
                                      refine lv_goto (tgt := 453) hx hb dL_tells_449 (by decide) ?_
                                      refine lv_icmp_eq (tgt := 458) hx hb dL_tells_453 (by decide) (fun c => absurd c (by decide)) (fun _ => ?_)
                                      refine lv_iconst (v := 0) hx hb dL_tells_456 (by decide) ?_
                                      subst R
                                      exact W.zret (v := 0) (ty := .boolean) hx hb hr rfl (fun t ht hW => ⟨rfl, by rw [ht]; exact hY, hS.F ht⟩) hS.2.2 dL_tells_457
                                    · replace hE := hE.trans (if_pos c_63)
                                      refine lv_iconst (v := 1) hx hb dL_tells_437 (by decide) ?_
                                      refine lv_goto (tgt := 442) hx hb dL_tells_438 (by decide) ?_
                                      refine lv_iload hx hb dL_tells_442 (lv_at hl 1 rfl) ?_
                                      refine lv_iconst (v := 2) hx hb dL_tells_444 (by decide) ?_
                                      refine lv_icmp_ge (tgt := 452) hx hb dL_tells_445 (by decide) (fun c => absurd c (by decide)) (fun _ => ?_)
                                      refine lv_iconst (v := 1) hx hb dL_tells_448 (by decide) ?_
                                      refine lv_goto (tgt := 453) hx hb dL_tells_449 (by decide) ?_
                                      refine lv_icmp_eq (tgt := 458) hx hb dL_tells_453 (by decide) (fun _ => ?_) (fun c => absurd (by decide) c)
                                      refine lv_iinc (v := (nI (i10 + 1))) (lv' := [(5, .int (nI (i10 + 1))), (11, .int 1), (10, .int 1), (4, .int (x10_4 ||| (1 <<< ((nI i10) &&& 31)))), (3, .int (x10_3 + (x34_8 * x34_9))), (2, .int (x10_2 + x34_8)), (9, .int x34_9), (8, .int x34_8), (7, .int x34_7), (6, .int x34_6), (0, .ref (ad 80)), (1, .ref (a 0))]) hx hb dL_tells_458 hl (k := 9) rfl (nI_1 i10) (by decide) rfl (fun ls hl => ?_)
                                      refine lv_goto (tgt := 10) hx hb dL_tells_461 (by decide) ?_
                                      exact ih10 (x10_2 + x34_8) (x10_3 + (x34_8 * x34_9)) (x10_4 ||| (1 <<< ((nI i10) &&& 31))) (i10 + 1) (by omega) (by omega) ls (lv_sub hl [0, 3, 4, 5, 10, 11] rfl) hE
                · replace hE := hE.trans (if_neg c_44)
                  refine lv_iconst (v := 2) hx hb dL_tells_261 (by decide) ?_
                  refine lv_goto (tgt := 280) hx hb dL_tells_262 (by decide) ?_
                  refine lv_istore (lv' := [(10, .int 2), (4, .int (x10_4 ||| (1 <<< ((nI i10) &&& 31)))), (3, .int (x10_3 + (x34_8 * x34_9))), (2, .int (x10_2 + x34_8)), (9, .int x34_9), (8, .int x34_8), (7, .int x34_7), (6, .int x34_6), (5, .int (nI i10)), (0, .ref (ad 80)), (1, .ref (a 0))]) hx hb dL_tells_280 hl (by decide) rfl (fun ls hl => ?_)
                  refine lv_aload_n hx hb dL_tells_282 rfl (lv_at hl 9 rfl) ?_
                  refine lv_iload hx hb dL_tells_283 (lv_at hl 8 rfl) ?_
                  refine lv_iconst (v := 0) hx hb dL_tells_285 (by decide) ?_
                  refine kCallRi (va_runV (As := [.int (nI i10), .int 0]) (rest := []) ⟨hx, hb, hml, hown, hts⟩ (c_X5_of l E ad S hs (nI i10) 0 (by assumption) _ rfl) (cwV 2 hts gL_tells_X5_of rfl rfl rfl (by decide +kernel) ⟨Nat.le_of_ble_eq_true rfl, Nat.le_of_ble_eq_true rfl⟩) (kPreYV hK hY.2.1 hY (q0 := 0) rfl rfl) rfl rfl hl.1 rfl (lv_room (Nat.le_of_ble_eq_true rfl)) dL_tells_286 ⟨Nat.le_of_ble_eq_true rfl, Nat.le_of_ble_eq_true rfl⟩) ?_
                  refine lv_iload hx hb dL_tells_289 (lv_at hl 0 rfl) ?_
                  refine lv_icmp_ne (tgt := 416) hx hb dL_tells_291 (by decide) (fun c_64 => ?_) (fun c_64 => ?_)
                  · replace hE := hE.trans (if_neg c_64)
                    refine lv_iconst (v := 0) hx hb dL_tells_416 (by decide) ?_
                    refine lv_istore (lv' := [(11, .int 0), (10, .int 2), (4, .int (x10_4 ||| (1 <<< ((nI i10) &&& 31)))), (3, .int (x10_3 + (x34_8 * x34_9))), (2, .int (x10_2 + x34_8)), (9, .int x34_9), (8, .int x34_8), (7, .int x34_7), (6, .int x34_6), (5, .int (nI i10)), (0, .ref (ad 80)), (1, .ref (a 0))]) hx hb dL_tells_417 hl (by decide) rfl (fun ls hl => ?_)
                    refine lv_iload hx hb dL_tells_419 (lv_at hl 0 rfl) ?_
                    refine lv_if_eq (tgt := 456) hx hb dL_tells_421 (by decide) (fun _ => ?_) (fun c => absurd (by decide) c)
                    refine lv_iconst (v := 0) hx hb dL_tells_456 (by decide) ?_
                    subst R
                    exact W.zret (v := 0) (ty := .boolean) hx hb hr rfl (fun t ht hW => ⟨rfl, by rw [ht]; exact hY, hS.F ht⟩) hS.2.2 dL_tells_457
                  · replace hE := hE.trans (if_pos c_64)
                    refine lv_aload_n hx hb dL_tells_294 rfl (lv_at hl 9 rfl) ?_
                    refine lv_iload hx hb dL_tells_295 (lv_at hl 8 rfl) ?_
                    refine lv_iconst (v := 1) hx hb dL_tells_297 (by decide) ?_
                    refine kCallRi (va_runV (As := [.int (nI i10), .int 1]) (rest := []) ⟨hx, hb, hml, hown, hts⟩ (c_X5_of l E ad S hs (nI i10) 1 (by assumption) _ rfl) (cwV 2 hts gL_tells_X5_of rfl rfl rfl (by decide +kernel) ⟨Nat.le_of_ble_eq_true rfl, Nat.le_of_ble_eq_true rfl⟩) (kPreYV hK hY.2.1 hY (q0 := 0) rfl rfl) rfl rfl hl.1 rfl (lv_room (Nat.le_of_ble_eq_true rfl)) dL_tells_298 ⟨Nat.le_of_ble_eq_true rfl, Nat.le_of_ble_eq_true rfl⟩) ?_
                    refine lv_aload_n hx hb dL_tells_301 rfl (lv_at hl 10 rfl) ?_
                    refine lv_iload hx hb dL_tells_302 (lv_at hl 8 rfl) ?_
                    refine va_iald (D := E.1) hx hb hK.1 hR 0 0 rfl rfl (rIn0 (by first | assumption | exact tOK.nI (by omega))) dL_tells_304 ?_
                    refine lv_icmp_ne (tgt := 416) hx hb dL_tells_305 (by decide) (fun c_65 => ?_) (fun c_65 => ?_)
                    · replace hE := hE.trans (if_neg c_65)
                      refine lv_iconst (v := 0) hx hb dL_tells_416 (by decide) ?_
                      refine lv_istore (lv' := [(11, .int 0), (10, .int 2), (4, .int (x10_4 ||| (1 <<< ((nI i10) &&& 31)))), (3, .int (x10_3 + (x34_8 * x34_9))), (2, .int (x10_2 + x34_8)), (9, .int x34_9), (8, .int x34_8), (7, .int x34_7), (6, .int x34_6), (5, .int (nI i10)), (0, .ref (ad 80)), (1, .ref (a 0))]) hx hb dL_tells_417 hl (by decide) rfl (fun ls hl => ?_)
                      refine lv_iload hx hb dL_tells_419 (lv_at hl 0 rfl) ?_
                      refine lv_if_eq (tgt := 456) hx hb dL_tells_421 (by decide) (fun _ => ?_) (fun c => absurd (by decide) c)
                      refine lv_iconst (v := 0) hx hb dL_tells_456 (by decide) ?_
                      subst R
                      exact W.zret (v := 0) (ty := .boolean) hx hb hr rfl (fun t ht hW => ⟨rfl, by rw [ht]; exact hY, hS.F ht⟩) hS.2.2 dL_tells_457
                    · replace hE := hE.trans (if_pos c_65)
                      refine lv_aload_n hx hb dL_tells_308 rfl (lv_at hl 9 rfl) ?_
                      refine lv_iload hx hb dL_tells_309 (lv_at hl 8 rfl) ?_
                      refine lv_iconst (v := 2) hx hb dL_tells_311 (by decide) ?_
                      refine kCallRi (va_runV (As := [.int (nI i10), .int 2]) (rest := []) ⟨hx, hb, hml, hown, hts⟩ (c_X5_of l E ad S hs (nI i10) 2 (by assumption) _ rfl) (cwV 2 hts gL_tells_X5_of rfl rfl rfl (by decide +kernel) ⟨Nat.le_of_ble_eq_true rfl, Nat.le_of_ble_eq_true rfl⟩) (kPreYV hK hY.2.1 hY (q0 := 0) rfl rfl) rfl rfl hl.1 rfl (lv_room (Nat.le_of_ble_eq_true rfl)) dL_tells_312 ⟨Nat.le_of_ble_eq_true rfl, Nat.le_of_ble_eq_true rfl⟩) ?_
                      refine lv_iload hx hb dL_tells_315 (lv_at hl 0 rfl) ?_
                      refine lv_iconst (v := 1) hx hb dL_tells_317 (by decide) ?_
                      refine lv_icmp_ne (tgt := 331) hx hb dL_tells_318 (by decide) (fun _ => ?_) (fun c => absurd c (by decide))
                      refine lv_bipush (v := (-6)) hx hb dL_tells_331 (by decide) ?_
                      refine lv_icmp_ne (tgt := 416) hx hb dL_tells_333 (by decide) (fun c_66 => ?_) (fun c_66 => ?_)
                      · replace hE := hE.trans (if_neg c_66)
                        refine lv_iconst (v := 0) hx hb dL_tells_416 (by decide) ?_
                        refine lv_istore (lv' := [(11, .int 0), (10, .int 2), (4, .int (x10_4 ||| (1 <<< ((nI i10) &&& 31)))), (3, .int (x10_3 + (x34_8 * x34_9))), (2, .int (x10_2 + x34_8)), (9, .int x34_9), (8, .int x34_8), (7, .int x34_7), (6, .int x34_6), (5, .int (nI i10)), (0, .ref (ad 80)), (1, .ref (a 0))]) hx hb dL_tells_417 hl (by decide) rfl (fun ls hl => ?_)
                        refine lv_iload hx hb dL_tells_419 (lv_at hl 0 rfl) ?_
                        refine lv_if_eq (tgt := 456) hx hb dL_tells_421 (by decide) (fun _ => ?_) (fun c => absurd (by decide) c)
                        refine lv_iconst (v := 0) hx hb dL_tells_456 (by decide) ?_
                        subst R
                        exact W.zret (v := 0) (ty := .boolean) hx hb hr rfl (fun t ht hW => ⟨rfl, by rw [ht]; exact hY, hS.F ht⟩) hS.2.2 dL_tells_457
                      · replace hE := hE.trans (if_pos c_66)
                        refine lv_aload_n hx hb dL_tells_336 rfl (lv_at hl 9 rfl) ?_
                        refine lv_iload hx hb dL_tells_337 (lv_at hl 8 rfl) ?_
                        refine lv_iconst (v := 3) hx hb dL_tells_339 (by decide) ?_
                        refine kCallRi (va_runV (As := [.int (nI i10), .int 3]) (rest := []) ⟨hx, hb, hml, hown, hts⟩ (c_X5_of l E ad S hs (nI i10) 3 (by assumption) _ rfl) (cwV 2 hts gL_tells_X5_of rfl rfl rfl (by decide +kernel) ⟨Nat.le_of_ble_eq_true rfl, Nat.le_of_ble_eq_true rfl⟩) (kPreYV hK hY.2.1 hY (q0 := 0) rfl rfl) rfl rfl hl.1 rfl (lv_room (Nat.le_of_ble_eq_true rfl)) dL_tells_340 ⟨Nat.le_of_ble_eq_true rfl, Nat.le_of_ble_eq_true rfl⟩) ?_
                        refine lv_aload_n hx hb dL_tells_343 rfl (lv_at hl 10 rfl) ?_
                        refine lv_bipush (v := 24) hx hb dL_tells_344 (by decide) ?_
                        refine lv_iload hx hb dL_tells_346 (lv_at hl 8 rfl) ?_
                        refine lv_iadd hx hb dL_tells_348 ?_
                        refine va_iald (D := E.1) hx hb hK.1 hR 0 0 rfl rfl (rIn 24 (by decide) (by first | assumption | exact tOK.nI (by omega))) dL_tells_349 ?_
                        refine lv_icmp_ne (tgt := 416) hx hb dL_tells_350 (by decide) (fun c_67 => ?_) (fun c_67 => ?_)
                        · replace hE := hE.trans (if_neg c_67)
                          refine lv_iconst (v := 0) hx hb dL_tells_416 (by decide) ?_
                          refine lv_istore (lv' := [(11, .int 0), (10, .int 2), (4, .int (x10_4 ||| (1 <<< ((nI i10) &&& 31)))), (3, .int (x10_3 + (x34_8 * x34_9))), (2, .int (x10_2 + x34_8)), (9, .int x34_9), (8, .int x34_8), (7, .int x34_7), (6, .int x34_6), (5, .int (nI i10)), (0, .ref (ad 80)), (1, .ref (a 0))]) hx hb dL_tells_417 hl (by decide) rfl (fun ls hl => ?_)
                          refine lv_iload hx hb dL_tells_419 (lv_at hl 0 rfl) ?_
                          refine lv_if_eq (tgt := 456) hx hb dL_tells_421 (by decide) (fun _ => ?_) (fun c => absurd (by decide) c)
                          refine lv_iconst (v := 0) hx hb dL_tells_456 (by decide) ?_
                          subst R
                          exact W.zret (v := 0) (ty := .boolean) hx hb hr rfl (fun t ht hW => ⟨rfl, by rw [ht]; exact hY, hS.F ht⟩) hS.2.2 dL_tells_457
                        · replace hE := hE.trans (if_pos c_67)
                          refine lv_aload_n hx hb dL_tells_353 rfl (lv_at hl 9 rfl) ?_
                          refine lv_iload hx hb dL_tells_354 (lv_at hl 8 rfl) ?_
                          refine lv_iconst (v := 4) hx hb dL_tells_356 (by decide) ?_
                          refine kCallRi (va_runV (As := [.int (nI i10), .int 4]) (rest := []) ⟨hx, hb, hml, hown, hts⟩ (c_X5_of l E ad S hs (nI i10) 4 (by assumption) _ rfl) (cwV 2 hts gL_tells_X5_of rfl rfl rfl (by decide +kernel) ⟨Nat.le_of_ble_eq_true rfl, Nat.le_of_ble_eq_true rfl⟩) (kPreYV hK hY.2.1 hY (q0 := 0) rfl rfl) rfl rfl hl.1 rfl (lv_room (Nat.le_of_ble_eq_true rfl)) dL_tells_357 ⟨Nat.le_of_ble_eq_true rfl, Nat.le_of_ble_eq_true rfl⟩) ?_
                          refine lv_aload_n hx hb dL_tells_360 rfl (lv_at hl 10 rfl) ?_
                          refine lv_bipush (v := 36) hx hb dL_tells_361 (by decide) ?_
                          refine lv_iload hx hb dL_tells_363 (lv_at hl 8 rfl) ?_
                          refine lv_iadd hx hb dL_tells_365 ?_
                          refine va_iald (D := E.1) hx hb hK.1 hR 0 0 rfl rfl (rIn 36 (by decide) (by first | assumption | exact tOK.nI (by omega))) dL_tells_366 ?_
                          refine lv_icmp_ne (tgt := 416) hx hb dL_tells_367 (by decide) (fun c_68 => ?_) (fun c_68 => ?_)
                          · replace hE := hE.trans (if_neg c_68)
                            refine lv_iconst (v := 0) hx hb dL_tells_416 (by decide) ?_
                            refine lv_istore (lv' := [(11, .int 0), (10, .int 2), (4, .int (x10_4 ||| (1 <<< ((nI i10) &&& 31)))), (3, .int (x10_3 + (x34_8 * x34_9))), (2, .int (x10_2 + x34_8)), (9, .int x34_9), (8, .int x34_8), (7, .int x34_7), (6, .int x34_6), (5, .int (nI i10)), (0, .ref (ad 80)), (1, .ref (a 0))]) hx hb dL_tells_417 hl (by decide) rfl (fun ls hl => ?_)
                            refine lv_iload hx hb dL_tells_419 (lv_at hl 0 rfl) ?_
                            refine lv_if_eq (tgt := 456) hx hb dL_tells_421 (by decide) (fun _ => ?_) (fun c => absurd (by decide) c)
                            refine lv_iconst (v := 0) hx hb dL_tells_456 (by decide) ?_
                            subst R
                            exact W.zret (v := 0) (ty := .boolean) hx hb hr rfl (fun t ht hW => ⟨rfl, by rw [ht]; exact hY, hS.F ht⟩) hS.2.2 dL_tells_457
                          · replace hE := hE.trans (if_pos c_68)
                            refine lv_aload_n hx hb dL_tells_370 rfl (lv_at hl 9 rfl) ?_
                            refine lv_iload hx hb dL_tells_371 (lv_at hl 8 rfl) ?_
                            refine lv_iconst (v := 5) hx hb dL_tells_373 (by decide) ?_
                            refine kCallRi (va_runV (As := [.int (nI i10), .int 5]) (rest := []) ⟨hx, hb, hml, hown, hts⟩ (c_X5_of l E ad S hs (nI i10) 5 (by assumption) _ rfl) (cwV 2 hts gL_tells_X5_of rfl rfl rfl (by decide +kernel) ⟨Nat.le_of_ble_eq_true rfl, Nat.le_of_ble_eq_true rfl⟩) (kPreYV hK hY.2.1 hY (q0 := 0) rfl rfl) rfl rfl hl.1 rfl (lv_room (Nat.le_of_ble_eq_true rfl)) dL_tells_374 ⟨Nat.le_of_ble_eq_true rfl, Nat.le_of_ble_eq_true rfl⟩) ?_
                            refine lv_iload hx hb dL_tells_377 (lv_at hl 7 rfl) ?_
                            refine lv_icmp_ne (tgt := 416) hx hb dL_tells_379 (by decide) (fun c_69 => ?_) (fun c_69 => ?_)
                            · replace hE := hE.trans (if_neg c_69)
                              refine lv_iconst (v := 0) hx hb dL_tells_416 (by decide) ?_
                              refine lv_istore (lv' := [(11, .int 0), (10, .int 2), (4, .int (x10_4 ||| (1 <<< ((nI i10) &&& 31)))), (3, .int (x10_3 + (x34_8 * x34_9))), (2, .int (x10_2 + x34_8)), (9, .int x34_9), (8, .int x34_8), (7, .int x34_7), (6, .int x34_6), (5, .int (nI i10)), (0, .ref (ad 80)), (1, .ref (a 0))]) hx hb dL_tells_417 hl (by decide) rfl (fun ls hl => ?_)
                              refine lv_iload hx hb dL_tells_419 (lv_at hl 0 rfl) ?_
                              refine lv_if_eq (tgt := 456) hx hb dL_tells_421 (by decide) (fun _ => ?_) (fun c => absurd (by decide) c)
                              refine lv_iconst (v := 0) hx hb dL_tells_456 (by decide) ?_
                              subst R
                              exact W.zret (v := 0) (ty := .boolean) hx hb hr rfl (fun t ht hW => ⟨rfl, by rw [ht]; exact hY, hS.F ht⟩) hS.2.2 dL_tells_457
                            · replace hE := hE.trans (if_pos c_69)
                              refine lv_aload_n hx hb dL_tells_382 rfl (lv_at hl 9 rfl) ?_
                              refine lv_iload hx hb dL_tells_383 (lv_at hl 8 rfl) ?_
                              refine lv_bipush (v := 6) hx hb dL_tells_385 (by decide) ?_
                              refine kCallRi (va_runV (As := [.int (nI i10), .int 6]) (rest := []) ⟨hx, hb, hml, hown, hts⟩ (c_X5_of l E ad S hs (nI i10) 6 (by assumption) _ rfl) (cwV 2 hts gL_tells_X5_of rfl rfl rfl (by decide +kernel) ⟨Nat.le_of_ble_eq_true rfl, Nat.le_of_ble_eq_true rfl⟩) (kPreYV hK hY.2.1 hY (q0 := 0) rfl rfl) rfl rfl hl.1 rfl (lv_room (Nat.le_of_ble_eq_true rfl)) dL_tells_387 ⟨Nat.le_of_ble_eq_true rfl, Nat.le_of_ble_eq_true rfl⟩) ?_
                              refine lv_iload hx hb dL_tells_390 (lv_at hl 6 rfl) ?_
                              refine lv_icmp_ne (tgt := 416) hx hb dL_tells_392 (by decide) (fun c_70 => ?_) (fun c_70 => ?_)
                              · replace hE := hE.trans (if_neg c_70)
                                refine lv_iconst (v := 0) hx hb dL_tells_416 (by decide) ?_
                                refine lv_istore (lv' := [(11, .int 0), (10, .int 2), (4, .int (x10_4 ||| (1 <<< ((nI i10) &&& 31)))), (3, .int (x10_3 + (x34_8 * x34_9))), (2, .int (x10_2 + x34_8)), (9, .int x34_9), (8, .int x34_8), (7, .int x34_7), (6, .int x34_6), (5, .int (nI i10)), (0, .ref (ad 80)), (1, .ref (a 0))]) hx hb dL_tells_417 hl (by decide) rfl (fun ls hl => ?_)
                                refine lv_iload hx hb dL_tells_419 (lv_at hl 0 rfl) ?_
                                refine lv_if_eq (tgt := 456) hx hb dL_tells_421 (by decide) (fun _ => ?_) (fun c => absurd (by decide) c)
                                refine lv_iconst (v := 0) hx hb dL_tells_456 (by decide) ?_
                                subst R
                                exact W.zret (v := 0) (ty := .boolean) hx hb hr rfl (fun t ht hW => ⟨rfl, by rw [ht]; exact hY, hS.F ht⟩) hS.2.2 dL_tells_457
                              · replace hE := hE.trans (if_pos c_70)
                                refine lv_aload_n hx hb dL_tells_395 rfl (lv_at hl 9 rfl) ?_
                                refine lv_iload hx hb dL_tells_396 (lv_at hl 8 rfl) ?_
                                refine lv_bipush (v := 8) hx hb dL_tells_398 (by decide) ?_
                                refine kCallRi (va_runV (As := [.int (nI i10), .int 8]) (rest := []) ⟨hx, hb, hml, hown, hts⟩ (c_X5_of l E ad S hs (nI i10) 8 (by assumption) _ rfl) (cwV 2 hts gL_tells_X5_of rfl rfl rfl (by decide +kernel) ⟨Nat.le_of_ble_eq_true rfl, Nat.le_of_ble_eq_true rfl⟩) (kPreYV hK hY.2.1 hY (q0 := 0) rfl rfl) rfl rfl hl.1 rfl (lv_room (Nat.le_of_ble_eq_true rfl)) dL_tells_400 ⟨Nat.le_of_ble_eq_true rfl, Nat.le_of_ble_eq_true rfl⟩) ?_
                                refine lv_aload_n hx hb dL_tells_403 rfl (lv_at hl 10 rfl) ?_
                                refine lv_iload hx hb dL_tells_404 (lv_at hl 8 rfl) ?_
                                refine kCallRi (va_runS (As := [.ref (a 0), .int (nI i10)]) (rest := [.int (mX5_of S (nI i10) 8)]) ⟨hx, hb, hml, hown, hts⟩ (c_L_safety l E a r (nI i10) (by first | assumption | exact tOK.nI (by omega)) (by first | assumption | exact tOK.nI (by omega)) _ rfl) (va_cwS 2 hts gL_tells_L_safety rfl rfl rfl (by decide +kernel) ⟨Nat.le_of_ble_eq_true rfl, Nat.le_of_ble_eq_true rfl⟩) (kPreS hK hR) rfl rfl hl.1 rfl (lv_room (Nat.le_of_ble_eq_true rfl)) dL_tells_406 ⟨Nat.le_of_ble_eq_true rfl, Nat.le_of_ble_eq_true rfl⟩) ?_
                                refine lv_icmp_ne (tgt := 416) hx hb dL_tells_409 (by decide) (fun c_71 => ?_) (fun c_71 => ?_)
                                · replace hE := hE.trans (if_neg c_71)
                                  refine lv_iconst (v := 0) hx hb dL_tells_416 (by decide) ?_
                                  refine lv_istore (lv' := [(11, .int 0), (10, .int 2), (4, .int (x10_4 ||| (1 <<< ((nI i10) &&& 31)))), (3, .int (x10_3 + (x34_8 * x34_9))), (2, .int (x10_2 + x34_8)), (9, .int x34_9), (8, .int x34_8), (7, .int x34_7), (6, .int x34_6), (5, .int (nI i10)), (0, .ref (ad 80)), (1, .ref (a 0))]) hx hb dL_tells_417 hl (by decide) rfl (fun ls hl => ?_)
                                  refine lv_iload hx hb dL_tells_419 (lv_at hl 0 rfl) ?_
                                  refine lv_if_eq (tgt := 456) hx hb dL_tells_421 (by decide) (fun _ => ?_) (fun c => absurd (by decide) c)
                                  refine lv_iconst (v := 0) hx hb dL_tells_456 (by decide) ?_
                                  subst R
                                  exact W.zret (v := 0) (ty := .boolean) hx hb hr rfl (fun t ht hW => ⟨rfl, by rw [ht]; exact hY, hS.F ht⟩) hS.2.2 dL_tells_457
                                · replace hE := hE.trans (if_pos c_71)
                                  refine lv_iconst (v := 1) hx hb dL_tells_412 (by decide) ?_
                                  refine lv_goto (tgt := 417) hx hb dL_tells_413 (by decide) ?_
                                  refine lv_istore (lv' := [(11, .int 1), (10, .int 2), (4, .int (x10_4 ||| (1 <<< ((nI i10) &&& 31)))), (3, .int (x10_3 + (x34_8 * x34_9))), (2, .int (x10_2 + x34_8)), (9, .int x34_9), (8, .int x34_8), (7, .int x34_7), (6, .int x34_6), (5, .int (nI i10)), (0, .ref (ad 80)), (1, .ref (a 0))]) hx hb dL_tells_417 hl (by decide) rfl (fun ls hl => ?_)
                                  refine lv_iload hx hb dL_tells_419 (lv_at hl 0 rfl) ?_
                                  refine lv_if_eq (tgt := 456) hx hb dL_tells_421 (by decide) (fun c => absurd c (by decide)) (fun _ => ?_)
                                  refine lv_aload_n hx hb dL_tells_424 rfl (lv_at hl 10 rfl) ?_
                                  refine lv_iload hx hb dL_tells_425 (lv_at hl 9 rfl) ?_
                                  refine lv_bipush (v := 7) hx hb dL_tells_427 (by decide) ?_
                                  refine kCallRi (va_runV (As := [.int (nI i10), .int 7]) (rest := []) ⟨hx, hb, hml, hown, hts⟩ (c_X5_of l E ad S hs (nI i10) 7 (by assumption) _ rfl) (cwV 2 hts gL_tells_X5_of rfl rfl rfl (by decide +kernel) ⟨Nat.le_of_ble_eq_true rfl, Nat.le_of_ble_eq_true rfl⟩) (kPreYV hK hY.2.1 hY (q0 := 0) rfl rfl) rfl rfl hl.1 rfl (lv_room (Nat.le_of_ble_eq_true rfl)) dL_tells_429 ⟨Nat.le_of_ble_eq_true rfl, Nat.le_of_ble_eq_true rfl⟩) ?_
                                  refine lv_bipush (v := (-6)) hx hb dL_tells_432 (by decide) ?_
                                  refine lv_icmp_ne (tgt := 441) hx hb dL_tells_434 (by decide) (fun c_72 => ?_) (fun c_72 => ?_)
                                  · replace hE := hE.trans (if_neg c_72)
                                    refine lv_iconst (v := 0) hx hb dL_tells_441 (by decide) ?_
                                    refine lv_iload hx hb dL_tells_442 (lv_at hl 1 rfl) ?_
                                    refine lv_iconst (v := 2) hx hb dL_tells_444 (by decide) ?_
                                    refine lv_icmp_ge (tgt := 452) hx hb dL_tells_445 (by decide) (fun _ => ?_) (fun c => absurd (by decide) c)
                                    refine lv_iconst (v := 0) hx hb dL_tells_452 (by decide) ?_
                                    refine lv_icmp_eq (tgt := 458) hx hb dL_tells_453 (by decide) (fun _ => ?_) (fun c => absurd (by decide) c)
                                    refine lv_iinc (v := (nI (i10 + 1))) (lv' := [(5, .int (nI (i10 + 1))), (11, .int 1), (10, .int 2), (4, .int (x10_4 ||| (1 <<< ((nI i10) &&& 31)))), (3, .int (x10_3 + (x34_8 * x34_9))), (2, .int (x10_2 + x34_8)), (9, .int x34_9), (8, .int x34_8), (7, .int x34_7), (6, .int x34_6), (0, .ref (ad 80)), (1, .ref (a 0))]) hx hb dL_tells_458 hl (k := 9) rfl (nI_1 i10) (by decide) rfl (fun ls hl => ?_)
                                    refine lv_goto (tgt := 10) hx hb dL_tells_461 (by decide) ?_
                                    exact ih10 (x10_2 + x34_8) (x10_3 + (x34_8 * x34_9)) (x10_4 ||| (1 <<< ((nI i10) &&& 31))) (i10 + 1) (by omega) (by omega) ls (lv_sub hl [0, 3, 4, 5, 10, 11] rfl) hE
                                  · replace hE := hE.trans (if_pos c_72)
                                    refine lv_iconst (v := 1) hx hb dL_tells_437 (by decide) ?_
                                    refine lv_goto (tgt := 442) hx hb dL_tells_438 (by decide) ?_
                                    refine lv_iload hx hb dL_tells_442 (lv_at hl 1 rfl) ?_
                                    refine lv_iconst (v := 2) hx hb dL_tells_444 (by decide) ?_
                                    refine lv_icmp_ge (tgt := 452) hx hb dL_tells_445 (by decide) (fun _ => ?_) (fun c => absurd (by decide) c)
                                    refine lv_iconst (v := 0) hx hb dL_tells_452 (by decide) ?_
                                    refine lv_icmp_eq (tgt := 458) hx hb dL_tells_453 (by decide) (fun c => absurd c (by decide)) (fun _ => ?_)
                                    refine lv_iconst (v := 0) hx hb dL_tells_456 (by decide) ?_
                                    subst R
                                    exact W.zret (v := 0) (ty := .boolean) hx hb hr rfl (fun t ht hW => ⟨rfl, by rw [ht]; exact hY, hS.F ht⟩) hS.2.2 dL_tells_457
            · replace hE := hE.trans (if_neg c_13)
              have hbc_13 : i34 < 12 := nOK.lt (by assumption) (by omega) c_13
              refine lv_aload_n hx hb dL_tells_43 rfl (lv_at hl 10 rfl) ?_
              refine lv_iload hx hb dL_tells_44 (lv_at hl 5 rfl) ?_
              refine lv_iload hx hb dL_tells_46 (lv_at hl 0 rfl) ?_
              refine kCallRi (va_runS (As := [.ref (a 0), .int (nI i10), .int (nI i34)]) (rest := []) ⟨hx, hb, hml, hown, hts⟩ (c_L_isEdge l E a r (nI i10) (nI i34) (by first | assumption | exact tOK.nI (by omega)) (by first | assumption | exact tOK.nI (by omega)) _ rfl) (va_cwS 3 hts gL_tells_L_isEdge rfl rfl rfl (by decide +kernel) ⟨Nat.le_of_ble_eq_true rfl, Nat.le_of_ble_eq_true rfl⟩) (kPreS hK hR) rfl rfl hl.1 rfl (lv_room (Nat.le_of_ble_eq_true rfl)) dL_tells_48 ⟨Nat.le_of_ble_eq_true rfl, Nat.le_of_ble_eq_true rfl⟩) ?_
              refine lv_istore (lv' := [(11, .int (mL_isEdge r (nI i10) (nI i34))), (10, .int (nI i34)), (9, .int x34_9), (8, .int x34_8), (7, .int x34_7), (6, .int x34_6), (5, .int (nI i10)), (4, .int x10_4), (3, .int x10_3), (2, .int x10_2), (0, .ref (ad 80)), (1, .ref (a 0))]) hx hb dL_tells_51 hl (by decide) rfl (fun ls hl => ?_)
              refine lv_aload_n hx hb dL_tells_53 rfl (lv_at hl 11 rfl) ?_
              refine lv_iload hx hb dL_tells_54 (lv_at hl 1 rfl) ?_
              refine lv_iload hx hb dL_tells_56 (lv_at hl 6 rfl) ?_
              refine kCallRi (va_runS (As := [.ref (a 0), .int (nI i34), .int (nI i10)]) (rest := []) ⟨hx, hb, hml, hown, hts⟩ (c_L_isEdge l E a r (nI i34) (nI i10) (by first | assumption | exact tOK.nI (by omega)) (by first | assumption | exact tOK.nI (by omega)) _ rfl) (va_cwS 3 hts gL_tells_L_isEdge rfl rfl rfl (by decide +kernel) ⟨Nat.le_of_ble_eq_true rfl, Nat.le_of_ble_eq_true rfl⟩) (kPreS hK hR) rfl rfl hl.1 rfl (lv_room (Nat.le_of_ble_eq_true rfl)) dL_tells_58 ⟨Nat.le_of_ble_eq_true rfl, Nat.le_of_ble_eq_true rfl⟩) ?_
              refine lv_istore (lv' := [(12, .int (mL_isEdge r (nI i34) (nI i10))), (11, .int (mL_isEdge r (nI i10) (nI i34))), (10, .int (nI i34)), (9, .int x34_9), (8, .int x34_8), (7, .int x34_7), (6, .int x34_6), (5, .int (nI i10)), (4, .int x10_4), (3, .int x10_3), (2, .int x10_2), (0, .ref (ad 80)), (1, .ref (a 0))]) hx hb dL_tells_61 hl (by decide) rfl (fun ls hl => ?_)
              refine lv_aload_n hx hb dL_tells_63 rfl (lv_at hl 12 rfl) ?_
              refine lv_bipush (v := 24) hx hb dL_tells_64 (by decide) ?_
              refine lv_iload hx hb dL_tells_66 (lv_at hl 7 rfl) ?_
              refine lv_iadd hx hb dL_tells_68 ?_
              refine va_iald (D := E.1) hx hb hK.1 hR 0 0 rfl rfl (rIn 24 (by decide) (by first | assumption | exact tOK.nI (by omega))) dL_tells_69 ?_
              refine lv_aload_n hx hb dL_tells_70 rfl (lv_at hl 12 rfl) ?_
              refine lv_bipush (v := 36) hx hb dL_tells_71 (by decide) ?_
              refine lv_iload hx hb dL_tells_73 (lv_at hl 2 rfl) ?_
              refine lv_iadd hx hb dL_tells_75 ?_
              refine va_iald (D := E.1) hx hb hK.1 hR 0 0 rfl rfl (rIn 36 (by decide) (by first | assumption | exact tOK.nI (by omega))) dL_tells_76 ?_
              refine lv_iand hx hb dL_tells_77 ?_
              refine lv_istore (lv' := [(13, .int ((r 0 ((24 + (nI i10))).toNatClampNeg) &&& (r 0 ((36 + (nI i34))).toNatClampNeg))), (12, .int (mL_isEdge r (nI i34) (nI i10))), (11, .int (mL_isEdge r (nI i10) (nI i34))), (10, .int (nI i34)), (9, .int x34_9), (8, .int x34_8), (7, .int x34_7), (6, .int x34_6), (5, .int (nI i10)), (4, .int x10_4), (3, .int x10_3), (2, .int x10_2), (0, .ref (ad 80)), (1, .ref (a 0))]) hx hb dL_tells_78 hl (by decide) rfl (fun ls hl => ?_)
              refine lv_aload_n hx hb dL_tells_80 rfl (lv_at hl 12 rfl) ?_
              refine lv_iload hx hb dL_tells_81 (lv_at hl 8 rfl) ?_
              refine lv_iload hx hb dL_tells_83 (lv_at hl 3 rfl) ?_
              refine kCallRi (va_runV (As := [.int (nI i10), .int (nI i34)]) (rest := []) ⟨hx, hb, hml, hown, hts⟩ (c_X5_edge l E ad S hs (nI i10) (nI i34) (by assumption) _ rfl) (cwV 2 hts gL_tells_X5_edge rfl rfl rfl (by decide +kernel) ⟨Nat.le_of_ble_eq_true rfl, Nat.le_of_ble_eq_true rfl⟩) (kPreYV hK hY.2.1 hY (q0 := 0) rfl rfl) rfl rfl hl.1 rfl (lv_room (Nat.le_of_ble_eq_true rfl)) dL_tells_85 ⟨Nat.le_of_ble_eq_true rfl, Nat.le_of_ble_eq_true rfl⟩) ?_
              refine lv_iload hx hb dL_tells_88 (lv_at hl 2 rfl) ?_
              refine lv_if_eq (tgt := 97) hx hb dL_tells_90 (by decide) (fun c_73 => ?_) (fun c_73 => ?_)
              · replace hE := hE.trans (if_pos c_73)
                refine lv_iconst (v := 0) hx hb dL_tells_97 (by decide) ?_
                refine lv_icmp_ne (tgt := 143) hx hb dL_tells_98 (by decide) (fun c_74 => ?_) (fun c_74 => ?_)
                · replace hE := hE.trans (if_neg c_74)
                  refine lv_iconst (v := 0) hx hb dL_tells_143 (by decide) ?_
                  subst R
                  exact W.zret (v := 0) (ty := .boolean) hx hb hr rfl (fun t ht hW => ⟨rfl, by rw [ht]; exact hY, hS.F ht⟩) hS.2.2 dL_tells_144
                · replace hE := hE.trans (if_pos c_74)
                  refine lv_iload hx hb dL_tells_101 (lv_at hl 2 rfl) ?_
                  refine lv_if_eq (tgt := 125) hx hb dL_tells_103 (by decide) (fun _ => ?_) (fun c => absurd c_73 c)
                  refine lv_iload hx hb dL_tells_125 (lv_at hl 2 rfl) ?_
                  refine lv_if_ne (tgt := 145) hx hb dL_tells_127 (by decide) (fun c => absurd c_73 c) (fun _ => ?_)
                  refine lv_aload_n hx hb dL_tells_130 rfl (lv_at hl 12 rfl) ?_
                  refine lv_iload hx hb dL_tells_131 (lv_at hl 8 rfl) ?_
                  refine lv_iload hx hb dL_tells_133 (lv_at hl 3 rfl) ?_
                  refine kCallRi (va_runV (As := [.int (nI i10), .int (nI i34)]) (rest := []) ⟨hx, hb, hml, hown, hts⟩ (c_X5_over l E ad S hs (nI i10) (nI i34) (by assumption) _ rfl) (cwV 2 hts gL_tells_X5_over rfl rfl rfl (by decide +kernel) ⟨Nat.le_of_ble_eq_true rfl, Nat.le_of_ble_eq_true rfl⟩) (kPreYV hK hY.2.1 hY (q0 := 0) rfl rfl) rfl rfl hl.1 rfl (lv_room (Nat.le_of_ble_eq_true rfl)) dL_tells_135 ⟨Nat.le_of_ble_eq_true rfl, Nat.le_of_ble_eq_true rfl⟩) ?_
                  refine lv_bipush (v := (-6)) hx hb dL_tells_138 (by decide) ?_
                  refine lv_icmp_eq (tgt := 145) hx hb dL_tells_140 (by decide) (fun c_75 => ?_) (fun c_75 => ?_)
                  · replace hE := hE.trans (if_pos c_75)
                    refine lv_iload hx hb dL_tells_145 (lv_at hl 7 rfl) ?_
                    refine lv_iload hx hb dL_tells_147 (lv_at hl 2 rfl) ?_
                    refine lv_if_eq (tgt := 159) hx hb dL_tells_149 (by decide) (fun _ => ?_) (fun c => absurd c_73 c)
                    refine lv_iconst (v := 0) hx hb dL_tells_159 (by decide) ?_
                    refine lv_ior hx hb dL_tells_160 ?_
                    refine lv_istore (lv' := [(6, .int (x34_6 ||| 0)), (13, .int ((r 0 ((24 + (nI i10))).toNatClampNeg) &&& (r 0 ((36 + (nI i34))).toNatClampNeg))), (12, .int (mL_isEdge r (nI i34) (nI i10))), (11, .int (mL_isEdge r (nI i10) (nI i34))), (10, .int (nI i34)), (9, .int x34_9), (8, .int x34_8), (7, .int x34_7), (5, .int (nI i10)), (4, .int x10_4), (3, .int x10_3), (2, .int x10_2), (0, .ref (ad 80)), (1, .ref (a 0))]) hx hb dL_tells_161 hl (by decide) rfl (fun ls hl => ?_)
                    refine lv_iload hx hb dL_tells_163 (lv_at hl 7 rfl) ?_
                    refine lv_iload hx hb dL_tells_165 (lv_at hl 2 rfl) ?_
                    refine lv_if_eq (tgt := 177) hx hb dL_tells_167 (by decide) (fun c_76 => ?_) (fun c_76 => ?_)
                    · replace hE := hE.trans (if_pos c_76)
                      refine lv_iconst (v := 0) hx hb dL_tells_177 (by decide) ?_
                      refine lv_ior hx hb dL_tells_178 ?_
                      refine lv_istore (lv' := [(7, .int (x34_7 ||| 0)), (6, .int (x34_6 ||| 0)), (13, .int ((r 0 ((24 + (nI i10))).toNatClampNeg) &&& (r 0 ((36 + (nI i34))).toNatClampNeg))), (12, .int (mL_isEdge r (nI i34) (nI i10))), (11, .int (mL_isEdge r (nI i10) (nI i34))), (10, .int (nI i34)), (9, .int x34_9), (8, .int x34_8), (5, .int (nI i10)), (4, .int x10_4), (3, .int x10_3), (2, .int x10_2), (0, .ref (ad 80)), (1, .ref (a 0))]) hx hb dL_tells_179 hl (by decide) rfl (fun ls hl => ?_)
                      refine lv_iload hx hb dL_tells_181 (lv_at hl 7 rfl) ?_
                      refine lv_iload hx hb dL_tells_183 (lv_at hl 4 rfl) ?_
                      refine lv_if_eq (tgt := 192) hx hb dL_tells_185 (by decide) (fun _ => ?_) (fun c => absurd c_73 c)
                      refine lv_iconst (v := 0) hx hb dL_tells_192 (by decide) ?_
                      refine lv_iadd hx hb dL_tells_193 ?_
                      refine lv_istore (lv' := [(8, .int (x34_8 + 0)), (7, .int (x34_7 ||| 0)), (6, .int (x34_6 ||| 0)), (13, .int ((r 0 ((24 + (nI i10))).toNatClampNeg) &&& (r 0 ((36 + (nI i34))).toNatClampNeg))), (12, .int (mL_isEdge r (nI i34) (nI i10))), (11, .int (mL_isEdge r (nI i10) (nI i34))), (10, .int (nI i34)), (9, .int x34_9), (5, .int (nI i10)), (4, .int x10_4), (3, .int x10_3), (2, .int x10_2), (0, .ref (ad 80)), (1, .ref (a 0))]) hx hb dL_tells_194 hl (by decide) rfl (fun ls hl => ?_)
                      refine lv_iload hx hb dL_tells_196 (lv_at hl 7 rfl) ?_
                      refine lv_iload hx hb dL_tells_198 (lv_at hl 4 rfl) ?_
                      refine lv_if_eq (tgt := 207) hx hb dL_tells_200 (by decide) (fun _ => ?_) (fun c => absurd c_76 c)
                      refine lv_iconst (v := 0) hx hb dL_tells_207 (by decide) ?_
                      refine lv_iadd hx hb dL_tells_208 ?_
                      refine lv_istore (lv' := [(9, .int (x34_9 + 0)), (8, .int (x34_8 + 0)), (7, .int (x34_7 ||| 0)), (6, .int (x34_6 ||| 0)), (13, .int ((r 0 ((24 + (nI i10))).toNatClampNeg) &&& (r 0 ((36 + (nI i34))).toNatClampNeg))), (12, .int (mL_isEdge r (nI i34) (nI i10))), (11, .int (mL_isEdge r (nI i10) (nI i34))), (10, .int (nI i34)), (5, .int (nI i10)), (4, .int x10_4), (3, .int x10_3), (2, .int x10_2), (0, .ref (ad 80)), (1, .ref (a 0))]) hx hb dL_tells_209 hl (by decide) rfl (fun ls hl => ?_)
                      refine lv_iinc (v := (nI (i34 + 1))) (lv' := [(10, .int (nI (i34 + 1))), (9, .int (x34_9 + 0)), (8, .int (x34_8 + 0)), (7, .int (x34_7 ||| 0)), (6, .int (x34_6 ||| 0)), (13, .int ((r 0 ((24 + (nI i10))).toNatClampNeg) &&& (r 0 ((36 + (nI i34))).toNatClampNeg))), (12, .int (mL_isEdge r (nI i34) (nI i10))), (11, .int (mL_isEdge r (nI i10) (nI i34))), (5, .int (nI i10)), (4, .int x10_4), (3, .int x10_3), (2, .int x10_2), (0, .ref (ad 80)), (1, .ref (a 0))]) hx hb dL_tells_211 hl (k := 7) rfl (nI_1 i34) (by decide) rfl (fun ls hl => ?_)
                      refine lv_goto (tgt := 34) hx hb dL_tells_214 (by decide) ?_
                      exact ih34 (x34_6 ||| 0) (x34_7 ||| 0) (x34_8 + 0) (x34_9 + 0) (i34 + 1) (by omega) (by omega) ls (lv_sub hl [0, 1, 2, 3, 4, 8, 9, 10, 11, 12, 13] rfl) hE
                    · replace hE := hE.trans (if_neg c_76)
                      refine lv_iconst (v := 1) hx hb dL_tells_170 (by decide) ?_
                      refine lv_iload hx hb dL_tells_171 (lv_at hl 4 rfl) ?_
                      refine lv_ishl hx hb dL_tells_173 ?_
                      refine lv_goto (tgt := 178) hx hb dL_tells_174 (by decide) ?_
                      refine lv_ior hx hb dL_tells_178 ?_
                      refine lv_istore (lv' := [(7, .int (x34_7 ||| (1 <<< ((nI i34) &&& 31)))), (6, .int (x34_6 ||| 0)), (13, .int ((r 0 ((24 + (nI i10))).toNatClampNeg) &&& (r 0 ((36 + (nI i34))).toNatClampNeg))), (12, .int (mL_isEdge r (nI i34) (nI i10))), (11, .int (mL_isEdge r (nI i10) (nI i34))), (10, .int (nI i34)), (9, .int x34_9), (8, .int x34_8), (5, .int (nI i10)), (4, .int x10_4), (3, .int x10_3), (2, .int x10_2), (0, .ref (ad 80)), (1, .ref (a 0))]) hx hb dL_tells_179 hl (by decide) rfl (fun ls hl => ?_)
                      refine lv_iload hx hb dL_tells_181 (lv_at hl 7 rfl) ?_
                      refine lv_iload hx hb dL_tells_183 (lv_at hl 4 rfl) ?_
                      refine lv_if_eq (tgt := 192) hx hb dL_tells_185 (by decide) (fun _ => ?_) (fun c => absurd c_73 c)
                      refine lv_iconst (v := 0) hx hb dL_tells_192 (by decide) ?_
                      refine lv_iadd hx hb dL_tells_193 ?_
                      refine lv_istore (lv' := [(8, .int (x34_8 + 0)), (7, .int (x34_7 ||| (1 <<< ((nI i34) &&& 31)))), (6, .int (x34_6 ||| 0)), (13, .int ((r 0 ((24 + (nI i10))).toNatClampNeg) &&& (r 0 ((36 + (nI i34))).toNatClampNeg))), (12, .int (mL_isEdge r (nI i34) (nI i10))), (11, .int (mL_isEdge r (nI i10) (nI i34))), (10, .int (nI i34)), (9, .int x34_9), (5, .int (nI i10)), (4, .int x10_4), (3, .int x10_3), (2, .int x10_2), (0, .ref (ad 80)), (1, .ref (a 0))]) hx hb dL_tells_194 hl (by decide) rfl (fun ls hl => ?_)
                      refine lv_iload hx hb dL_tells_196 (lv_at hl 7 rfl) ?_
                      refine lv_iload hx hb dL_tells_198 (lv_at hl 4 rfl) ?_
                      refine lv_if_eq (tgt := 207) hx hb dL_tells_200 (by decide) (fun c => absurd c c_76) (fun _ => ?_)
                      refine lv_iconst (v := 1) hx hb dL_tells_203 (by decide) ?_
                      refine lv_goto (tgt := 208) hx hb dL_tells_204 (by decide) ?_
                      refine lv_iadd hx hb dL_tells_208 ?_
                      refine lv_istore (lv' := [(9, .int (x34_9 + 1)), (8, .int (x34_8 + 0)), (7, .int (x34_7 ||| (1 <<< ((nI i34) &&& 31)))), (6, .int (x34_6 ||| 0)), (13, .int ((r 0 ((24 + (nI i10))).toNatClampNeg) &&& (r 0 ((36 + (nI i34))).toNatClampNeg))), (12, .int (mL_isEdge r (nI i34) (nI i10))), (11, .int (mL_isEdge r (nI i10) (nI i34))), (10, .int (nI i34)), (5, .int (nI i10)), (4, .int x10_4), (3, .int x10_3), (2, .int x10_2), (0, .ref (ad 80)), (1, .ref (a 0))]) hx hb dL_tells_209 hl (by decide) rfl (fun ls hl => ?_)
                      refine lv_iinc (v := (nI (i34 + 1))) (lv' := [(10, .int (nI (i34 + 1))), (9, .int (x34_9 + 1)), (8, .int (x34_8 + 0)), (7, .int (x34_7 ||| (1 <<< ((nI i34) &&& 31)))), (6, .int (x34_6 ||| 0)), (13, .int ((r 0 ((24 + (nI i10))).toNatClampNeg) &&& (r 0 ((36 + (nI i34))).toNatClampNeg))), (12, .int (mL_isEdge r (nI i34) (nI i10))), (11, .int (mL_isEdge r (nI i10) (nI i34))), (5, .int (nI i10)), (4, .int x10_4), (3, .int x10_3), (2, .int x10_2), (0, .ref (ad 80)), (1, .ref (a 0))]) hx hb dL_tells_211 hl (k := 7) rfl (nI_1 i34) (by decide) rfl (fun ls hl => ?_)
                      refine lv_goto (tgt := 34) hx hb dL_tells_214 (by decide) ?_
                      exact ih34 (x34_6 ||| 0) (x34_7 ||| (1 <<< ((nI i34) &&& 31))) (x34_8 + 0) (x34_9 + 1) (i34 + 1) (by omega) (by omega) ls (lv_sub hl [0, 1, 2, 3, 4, 8, 9, 10, 11, 12, 13] rfl) hE
                  · replace hE := hE.trans (if_neg c_75)
                    refine lv_iconst (v := 0) hx hb dL_tells_143 (by decide) ?_
                    subst R
                    exact W.zret (v := 0) (ty := .boolean) hx hb hr rfl (fun t ht hW => ⟨rfl, by rw [ht]; exact hY, hS.F ht⟩) hS.2.2 dL_tells_144
              · replace hE := hE.trans (if_neg c_73)
                refine lv_iconst (v := 1) hx hb dL_tells_93 (by decide) ?_
                refine lv_goto (tgt := 98) hx hb dL_tells_94 (by decide) ?_
                refine lv_icmp_ne (tgt := 143) hx hb dL_tells_98 (by decide) (fun c_77 => ?_) (fun c_77 => ?_)
                · replace hE := hE.trans (if_neg c_77)
                  refine lv_iconst (v := 0) hx hb dL_tells_143 (by decide) ?_
                  subst R
                  exact W.zret (v := 0) (ty := .boolean) hx hb hr rfl (fun t ht hW => ⟨rfl, by rw [ht]; exact hY, hS.F ht⟩) hS.2.2 dL_tells_144
                · replace hE := hE.trans (if_pos c_77)
                  refine lv_iload hx hb dL_tells_101 (lv_at hl 2 rfl) ?_
                  refine lv_if_eq (tgt := 125) hx hb dL_tells_103 (by decide) (fun c => absurd c c_73) (fun _ => ?_)
                  refine lv_iconst (v := 1) hx hb dL_tells_106 (by decide) ?_
                  refine lv_aload_n hx hb dL_tells_107 rfl (lv_at hl 12 rfl) ?_
                  refine lv_iload hx hb dL_tells_108 (lv_at hl 8 rfl) ?_
                  refine lv_iload hx hb dL_tells_110 (lv_at hl 3 rfl) ?_
                  refine kCallRi (va_runV (As := [.int (nI i10), .int (nI i34)]) (rest := [.int 1]) ⟨hx, hb, hml, hown, hts⟩ (c_X5_over l E ad S hs (nI i10) (nI i34) (by assumption) _ rfl) (cwV 2 hts gL_tells_X5_over rfl rfl rfl (by decide +kernel) ⟨Nat.le_of_ble_eq_true rfl, Nat.le_of_ble_eq_true rfl⟩) (kPreYV hK hY.2.1 hY (q0 := 0) rfl rfl) rfl rfl hl.1 rfl (lv_room (Nat.le_of_ble_eq_true rfl)) dL_tells_112 ⟨Nat.le_of_ble_eq_true rfl, Nat.le_of_ble_eq_true rfl⟩) ?_
                  refine lv_ishl hx hb dL_tells_115 ?_
                  refine lv_iload hx hb dL_tells_116 (lv_at hl 0 rfl) ?_
                  refine lv_iload hx hb dL_tells_118 (lv_at hl 0 rfl) ?_
                  refine lv_ineg hx hb dL_tells_120 ?_
                  refine lv_iand hx hb dL_tells_121 ?_
                  refine lv_icmp_ne (tgt := 143) hx hb dL_tells_122 (by decide) (fun c_78 => ?_) (fun c_78 => ?_)
                  · replace hE := hE.trans (if_neg c_78)
                    refine lv_iconst (v := 0) hx hb dL_tells_143 (by decide) ?_
                    subst R
                    exact W.zret (v := 0) (ty := .boolean) hx hb hr rfl (fun t ht hW => ⟨rfl, by rw [ht]; exact hY, hS.F ht⟩) hS.2.2 dL_tells_144
                  · replace hE := hE.trans (if_pos c_78)
                    refine lv_iload hx hb dL_tells_125 (lv_at hl 2 rfl) ?_
                    refine lv_if_ne (tgt := 145) hx hb dL_tells_127 (by decide) (fun _ => ?_) (fun c => absurd c c_73)
                    refine lv_iload hx hb dL_tells_145 (lv_at hl 7 rfl) ?_
                    refine lv_iload hx hb dL_tells_147 (lv_at hl 2 rfl) ?_
                    refine lv_if_eq (tgt := 159) hx hb dL_tells_149 (by decide) (fun c => absurd c c_73) (fun _ => ?_)
                    refine lv_iconst (v := 1) hx hb dL_tells_152 (by decide) ?_
                    refine lv_iload hx hb dL_tells_153 (lv_at hl 3 rfl) ?_
                    refine lv_ishl hx hb dL_tells_155 ?_
                    refine lv_goto (tgt := 160) hx hb dL_tells_156 (by decide) ?_
                    refine lv_ior hx hb dL_tells_160 ?_
                    refine lv_istore (lv' := [(6, .int (x34_6 ||| (1 <<< ((nI i34) &&& 31)))), (13, .int ((r 0 ((24 + (nI i10))).toNatClampNeg) &&& (r 0 ((36 + (nI i34))).toNatClampNeg))), (12, .int (mL_isEdge r (nI i34) (nI i10))), (11, .int (mL_isEdge r (nI i10) (nI i34))), (10, .int (nI i34)), (9, .int x34_9), (8, .int x34_8), (7, .int x34_7), (5, .int (nI i10)), (4, .int x10_4), (3, .int x10_3), (2, .int x10_2), (0, .ref (ad 80)), (1, .ref (a 0))]) hx hb dL_tells_161 hl (by decide) rfl (fun ls hl => ?_)
                    refine lv_iload hx hb dL_tells_163 (lv_at hl 7 rfl) ?_
                    refine lv_iload hx hb dL_tells_165 (lv_at hl 2 rfl) ?_
                    refine lv_if_eq (tgt := 177) hx hb dL_tells_167 (by decide) (fun c_79 => ?_) (fun c_79 => ?_)
                    · replace hE := hE.trans (if_pos c_79)
                      refine lv_iconst (v := 0) hx hb dL_tells_177 (by decide) ?_
                      refine lv_ior hx hb dL_tells_178 ?_
                      refine lv_istore (lv' := [(7, .int (x34_7 ||| 0)), (6, .int (x34_6 ||| (1 <<< ((nI i34) &&& 31)))), (13, .int ((r 0 ((24 + (nI i10))).toNatClampNeg) &&& (r 0 ((36 + (nI i34))).toNatClampNeg))), (12, .int (mL_isEdge r (nI i34) (nI i10))), (11, .int (mL_isEdge r (nI i10) (nI i34))), (10, .int (nI i34)), (9, .int x34_9), (8, .int x34_8), (5, .int (nI i10)), (4, .int x10_4), (3, .int x10_3), (2, .int x10_2), (0, .ref (ad 80)), (1, .ref (a 0))]) hx hb dL_tells_179 hl (by decide) rfl (fun ls hl => ?_)
                      refine lv_iload hx hb dL_tells_181 (lv_at hl 7 rfl) ?_
                      refine lv_iload hx hb dL_tells_183 (lv_at hl 4 rfl) ?_
                      refine lv_if_eq (tgt := 192) hx hb dL_tells_185 (by decide) (fun c => absurd c c_73) (fun _ => ?_)
                      refine lv_iconst (v := 1) hx hb dL_tells_188 (by decide) ?_
                      refine lv_goto (tgt := 193) hx hb dL_tells_189 (by decide) ?_
                      refine lv_iadd hx hb dL_tells_193 ?_
                      refine lv_istore (lv' := [(8, .int (x34_8 + 1)), (7, .int (x34_7 ||| 0)), (6, .int (x34_6 ||| (1 <<< ((nI i34) &&& 31)))), (13, .int ((r 0 ((24 + (nI i10))).toNatClampNeg) &&& (r 0 ((36 + (nI i34))).toNatClampNeg))), (12, .int (mL_isEdge r (nI i34) (nI i10))), (11, .int (mL_isEdge r (nI i10) (nI i34))), (10, .int (nI i34)), (9, .int x34_9), (5, .int (nI i10)), (4, .int x10_4), (3, .int x10_3), (2, .int x10_2), (0, .ref (ad 80)), (1, .ref (a 0))]) hx hb dL_tells_194 hl (by decide) rfl (fun ls hl => ?_)
                      refine lv_iload hx hb dL_tells_196 (lv_at hl 7 rfl) ?_
                      refine lv_iload hx hb dL_tells_198 (lv_at hl 4 rfl) ?_
                      refine lv_if_eq (tgt := 207) hx hb dL_tells_200 (by decide) (fun _ => ?_) (fun c => absurd c_79 c)
                      refine lv_iconst (v := 0) hx hb dL_tells_207 (by decide) ?_
                      refine lv_iadd hx hb dL_tells_208 ?_
                      refine lv_istore (lv' := [(9, .int (x34_9 + 0)), (8, .int (x34_8 + 1)), (7, .int (x34_7 ||| 0)), (6, .int (x34_6 ||| (1 <<< ((nI i34) &&& 31)))), (13, .int ((r 0 ((24 + (nI i10))).toNatClampNeg) &&& (r 0 ((36 + (nI i34))).toNatClampNeg))), (12, .int (mL_isEdge r (nI i34) (nI i10))), (11, .int (mL_isEdge r (nI i10) (nI i34))), (10, .int (nI i34)), (5, .int (nI i10)), (4, .int x10_4), (3, .int x10_3), (2, .int x10_2), (0, .ref (ad 80)), (1, .ref (a 0))]) hx hb dL_tells_209 hl (by decide) rfl (fun ls hl => ?_)
                      refine lv_iinc (v := (nI (i34 + 1))) (lv' := [(10, .int (nI (i34 + 1))), (9, .int (x34_9 + 0)), (8, .int (x34_8 + 1)), (7, .int (x34_7 ||| 0)), (6, .int (x34_6 ||| (1 <<< ((nI i34) &&& 31)))), (13, .int ((r 0 ((24 + (nI i10))).toNatClampNeg) &&& (r 0 ((36 + (nI i34))).toNatClampNeg))), (12, .int (mL_isEdge r (nI i34) (nI i10))), (11, .int (mL_isEdge r (nI i10) (nI i34))), (5, .int (nI i10)), (4, .int x10_4), (3, .int x10_3), (2, .int x10_2), (0, .ref (ad 80)), (1, .ref (a 0))]) hx hb dL_tells_211 hl (k := 7) rfl (nI_1 i34) (by decide) rfl (fun ls hl => ?_)
                      refine lv_goto (tgt := 34) hx hb dL_tells_214 (by decide) ?_
                      exact ih34 (x34_6 ||| (1 <<< ((nI i34) &&& 31))) (x34_7 ||| 0) (x34_8 + 1) (x34_9 + 0) (i34 + 1) (by omega) (by omega) ls (lv_sub hl [0, 1, 2, 3, 4, 8, 9, 10, 11, 12, 13] rfl) hE
                    · replace hE := hE.trans (if_neg c_79)
                      refine lv_iconst (v := 1) hx hb dL_tells_170 (by decide) ?_
                      refine lv_iload hx hb dL_tells_171 (lv_at hl 4 rfl) ?_
                      refine lv_ishl hx hb dL_tells_173 ?_
                      refine lv_goto (tgt := 178) hx hb dL_tells_174 (by decide) ?_
                      refine lv_ior hx hb dL_tells_178 ?_
                      refine lv_istore (lv' := [(7, .int (x34_7 ||| (1 <<< ((nI i34) &&& 31)))), (6, .int (x34_6 ||| (1 <<< ((nI i34) &&& 31)))), (13, .int ((r 0 ((24 + (nI i10))).toNatClampNeg) &&& (r 0 ((36 + (nI i34))).toNatClampNeg))), (12, .int (mL_isEdge r (nI i34) (nI i10))), (11, .int (mL_isEdge r (nI i10) (nI i34))), (10, .int (nI i34)), (9, .int x34_9), (8, .int x34_8), (5, .int (nI i10)), (4, .int x10_4), (3, .int x10_3), (2, .int x10_2), (0, .ref (ad 80)), (1, .ref (a 0))]) hx hb dL_tells_179 hl (by decide) rfl (fun ls hl => ?_)
                      refine lv_iload hx hb dL_tells_181 (lv_at hl 7 rfl) ?_
                      refine lv_iload hx hb dL_tells_183 (lv_at hl 4 rfl) ?_
                      refine lv_if_eq (tgt := 192) hx hb dL_tells_185 (by decide) (fun c => absurd c c_73) (fun _ => ?_)
                      refine lv_iconst (v := 1) hx hb dL_tells_188 (by decide) ?_
                      refine lv_goto (tgt := 193) hx hb dL_tells_189 (by decide) ?_
                      refine lv_iadd hx hb dL_tells_193 ?_
                      refine lv_istore (lv' := [(8, .int (x34_8 + 1)), (7, .int (x34_7 ||| (1 <<< ((nI i34) &&& 31)))), (6, .int (x34_6 ||| (1 <<< ((nI i34) &&& 31)))), (13, .int ((r 0 ((24 + (nI i10))).toNatClampNeg) &&& (r 0 ((36 + (nI i34))).toNatClampNeg))), (12, .int (mL_isEdge r (nI i34) (nI i10))), (11, .int (mL_isEdge r (nI i10) (nI i34))), (10, .int (nI i34)), (9, .int x34_9), (5, .int (nI i10)), (4, .int x10_4), (3, .int x10_3), (2, .int x10_2), (0, .ref (ad 80)), (1, .ref (a 0))]) hx hb dL_tells_194 hl (by decide) rfl (fun ls hl => ?_)
                      refine lv_iload hx hb dL_tells_196 (lv_at hl 7 rfl) ?_
                      refine lv_iload hx hb dL_tells_198 (lv_at hl 4 rfl) ?_
                      refine lv_if_eq (tgt := 207) hx hb dL_tells_200 (by decide) (fun c => absurd c c_79) (fun _ => ?_)
                      refine lv_iconst (v := 1) hx hb dL_tells_203 (by decide) ?_
                      refine lv_goto (tgt := 208) hx hb dL_tells_204 (by decide) ?_
                      refine lv_iadd hx hb dL_tells_208 ?_
                      refine lv_istore (lv' := [(9, .int (x34_9 + 1)), (8, .int (x34_8 + 1)), (7, .int (x34_7 ||| (1 <<< ((nI i34) &&& 31)))), (6, .int (x34_6 ||| (1 <<< ((nI i34) &&& 31)))), (13, .int ((r 0 ((24 + (nI i10))).toNatClampNeg) &&& (r 0 ((36 + (nI i34))).toNatClampNeg))), (12, .int (mL_isEdge r (nI i34) (nI i10))), (11, .int (mL_isEdge r (nI i10) (nI i34))), (10, .int (nI i34)), (5, .int (nI i10)), (4, .int x10_4), (3, .int x10_3), (2, .int x10_2), (0, .ref (ad 80)), (1, .ref (a 0))]) hx hb dL_tells_209 hl (by decide) rfl (fun ls hl => ?_)
                      refine lv_iinc (v := (nI (i34 + 1))) (lv' := [(10, .int (nI (i34 + 1))), (9, .int (x34_9 + 1)), (8, .int (x34_8 + 1)), (7, .int (x34_7 ||| (1 <<< ((nI i34) &&& 31)))), (6, .int (x34_6 ||| (1 <<< ((nI i34) &&& 31)))), (13, .int ((r 0 ((24 + (nI i10))).toNatClampNeg) &&& (r 0 ((36 + (nI i34))).toNatClampNeg))), (12, .int (mL_isEdge r (nI i34) (nI i10))), (11, .int (mL_isEdge r (nI i10) (nI i34))), (5, .int (nI i10)), (4, .int x10_4), (3, .int x10_3), (2, .int x10_2), (0, .ref (ad 80)), (1, .ref (a 0))]) hx hb dL_tells_211 hl (k := 7) rfl (nI_1 i34) (by decide) rfl (fun ls hl => ?_)
                      refine lv_goto (tgt := 34) hx hb dL_tells_214 (by decide) ?_
                      exact ih34 (x34_6 ||| (1 <<< ((nI i34) &&& 31))) (x34_7 ||| (1 <<< ((nI i34) &&& 31))) (x34_8 + 1) (x34_9 + 1) (i34 + 1) (by omega) (by omega) ls (lv_sub hl [0, 1, 2, 3, 4, 8, 9, 10, 11, 12, 13] rfl) hE
        exact lp34 13 0 0 0 0 0 (by omega) (by omega) ls (lv_sub hl [0, 1, 2, 3, 4, 5, 6, 7, 8, 9, 10] rfl) hE
  exact lp10 13 0 0 0 0 (by omega) (by omega) ls (lv_sub hl [0, 1, 2, 3, 4, 5] rfl) hE
