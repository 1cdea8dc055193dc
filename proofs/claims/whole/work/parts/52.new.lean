theorem AWi : Cond.arrayClass .int ∈ ax_tb := ax_t 43 (by decide +kernel) rfl
theorem AWz : Cond.arrayClass .boolean ∈ ax_tb := ax_t 471 (by decide +kernel) rfl
theorem PL_7 : Cond.classLink RL 7 RX4 ∈ ax_tb := ax_t 9 (by decide +kernel) rfl
theorem NL_7 : ax_nw RL 7 4 6 [nv, nv, iv 0, nv, nv, nv] := ⟨RX4, TX4, tyX4, rfl, inbX4, tyX4_ok, PL_7, ax_t 10 (by decide +kernel) rfl, ax_t 1 (by decide +kernel) rfl, rfl, fun b j hj => match j, hj with | 0, _ => rfl | 1, _ => rfl | 2, _ => rfl | 3, _ => rfl | 4, _ => rfl | 5, _ => rfl | (k + 6), hj => absurd hj (by omega)⟩
theorem PX4_9 : Cond.classLink RX4 9 RX0 ∈ ax_tb := ax_t 17 (by decide +kernel) rfl
theorem NX4_9 : ax_nw RX4 9 0 4 [nv, nv, nv, iv 0] := ⟨RX0, TX0, tyX0, rfl, inbX0, tyX0_ok, PX4_9, ax_t 107 (by decide +kernel) rfl, ax_t 5 (by decide +kernel) rfl, rfl, fun b j hj => match j, hj with | 0, _ => rfl | 1, _ => rfl | 2, _ => rfl | 3, _ => rfl | (k + 4), hj => absurd hj (by omega)⟩
theorem PX4_18 : Cond.classLink RX4 18 RX3 ∈ ax_tb := ax_t 19 (by decide +kernel) rfl
theorem NX4_18 : ax_nw RX4 18 3 5 [nv, nv, iv 0, nv, iv 0] := ⟨RX3, TX3, tyX3, rfl, inbX3, tyX3_ok, PX4_18, ax_t 20 (by decide +kernel) rfl, ax_t 2 (by decide +kernel) rfl, rfl, fun b j hj => match j, hj with | 0, _ => rfl | 1, _ => rfl | 2, _ => rfl | 3, _ => rfl | 4, _ => rfl | (k + 5), hj => absurd hj (by omega)⟩
theorem PX4_25 : Cond.classLink RX4 25 RX2 ∈ ax_tb := ax_t 44 (by decide +kernel) rfl
theorem NX4_25 : ax_nw RX4 25 2 7 [nv, iv 0, nv, nv, nv, nv, iv 0] := ⟨RX2, TX2, tyX2, rfl, inbX2, tyX2_ok, PX4_25, ax_t 45 (by decide +kernel) rfl, ax_t 3 (by decide +kernel) rfl, rfl, fun b j hj => match j, hj with | 0, _ => rfl | 1, _ => rfl | 2, _ => rfl | 3, _ => rfl | 4, _ => rfl | 5, _ => rfl | 6, _ => rfl | (k + 7), hj => absurd hj (by omega)⟩
theorem PX2_11 : Cond.classLink RX2 11 RX1 ∈ ax_tb := ax_t 50 (by decide +kernel) rfl
theorem NX2_11 : ax_nw RX2 11 1 6 [iv 0, iv 0, iv 0, iv 0, iv 0, iv 0] := ⟨RX1, TX1, tyX1, rfl, inbX1, tyX1_ok, PX2_11, ax_t 52 (by decide +kernel) rfl, ax_t 4 (by decide +kernel) rfl, rfl, fun b j hj => match j, hj with | 0, _ => rfl | 1, _ => rfl | 2, _ => rfl | 3, _ => rfl | 4, _ => rfl | 5, _ => rfl | (k + 6), hj => absurd hj (by omega)⟩
theorem PX4_32 : Cond.classLink RX4 32 "[[I" ∈ ax_tb := ax_t 105 (by decide +kernel) rfl
theorem PL_10 : Cond.classLink RL 10 RX5 ∈ ax_tb := ax_t 422 (by decide +kernel) rfl
theorem NL_10 : ax_nw RL 10 5 14 [nv, nv, nv, nv, nv, iv 0, nv, iv 0, nv, nv, nv, iv 0, nv, nv] := ⟨RX5, TX5, tyX5, rfl, inbX5, tyX5_ok, PL_10, ax_t 423 (by decide +kernel) rfl, ax_t 6 (by decide +kernel) rfl, rfl, fun b j hj => match j, hj with | 0, _ => rfl | 1, _ => rfl | 2, _ => rfl | 3, _ => rfl | 4, _ => rfl | 5, _ => rfl | 6, _ => rfl | 7, _ => rfl | 8, _ => rfl | 9, _ => rfl | 10, _ => rfl | 11, _ => rfl | 12, _ => rfl | 13, _ => rfl | (k + 14), hj => absurd hj (by omega)⟩
theorem AOX0 : Cond.arrayOver (.object RX0) ∈ ax_tb := ax_t 18 (by decide +kernel) rfl
theorem AOX1 : Cond.arrayOver (.object RX1) ∈ ax_tb := ax_t 51 (by decide +kernel) rfl
theorem AOA : Cond.arrayOver (.array .int) ∈ ax_tb := ax_t 106 (by decide +kernel) rfl
