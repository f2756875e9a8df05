/** Wheels in states in which every change would show; each call of wheel() makes the same one anew. */
enum Start {
    /** With an empty buffer. */
    NEW {
        @Override
        FlashRatchet wheel() {
            return new FlashRatchet();
        }
    },
    /** With a text in the buffer that is not at its end, and a program (C) that has no average. */
    ON_2 {
        @Override
        FlashRatchet wheel() {
            FlashRatchet wheel = Wheels.of(2, "A:31,05;B:44,28;C:90,10;P:BAC");
            wheel.gear(2, false);
            wheel.pawl(1, true);
            wheel.restart(1, 77);
            wheel.run(4);
            Check.append(wheel, "A:12,3");
            return wheel;
        }
    },
    /** With a complete text in the buffer; all programs of a lever alone have averages below 0. */
    ON_3 {
        @Override
        FlashRatchet wheel() {
            FlashRatchet wheel = Wheels.of(3, "A:54,54,54;B:70,15,15;C:10,10,10;P:ABB");
            wheel.restart(2, 999);
            wheel.run(500);
            Check.append(wheel, "B:11,22,33;P:CA");
            return wheel;
        }
    },
    /** With a full buffer, a complete text again. */
    ON_4 {
        @Override
        FlashRatchet wheel() {
            FlashRatchet wheel = Wheels.of(4, "A:19,28,37,46;B:82,71,64,19;C:91,17,36,52;P:CABC");
            wheel.pawl(0, true);
            wheel.pawl(3, true);
            wheel.restart(3, 0);
            wheel.run(7);
            Check.append(wheel, "C:09,18,27,36;B:45,54,63,72;A:81,90,08,17;B:26,35,44,53;P:CB");
            return wheel;
        }
    };

    abstract FlashRatchet wheel();
}
