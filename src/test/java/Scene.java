/** Staircases to try calls on, from nothing kept to full stores, from the smallest one to the greatest. */
enum Scene {
    /** As it is made: 4 x 8, no mark, no deed. */
    FRESH {
        @Override
        void play(Object stairs) {
        }
    },

    /** One puddle, with as many marks and deeds as there can be. */
    SMALLEST {
        @Override
        void play(Object stairs) {
            Calls.answer(stairs, "lay", 1, 1);
            for (int time = 0; time < 12; time++) {
                Calls.answer(stairs, "rain", 0, 0, 9 - time);
                Calls.answer(stairs, "mark");
            }
            for (int time = 0; time < 23; time++) {
                Calls.answer(stairs, "rain", 0, 0, 7);
            }
            Calls.answer(stairs, "passHours", 1);
        }
    },

    /** 2 x 3, with as many marks and deeds as there can be, of each kind of deed one at least. */
    FULL {
        @Override
        void play(Object stairs) {
            Calls.answer(stairs, "lay", 2, 3);
            Calls.answer(stairs, "setSun", 2);
            Calls.answer(stairs, "setEdge", 0, 40);
            Calls.answer(stairs, "setEdge", 2, 7);
            for (int time = 0; time < 12; time++) {
                Calls.answer(stairs, "rain", time % 2, time % 3, time % 5 == 0 ? -30 : 8 + time);
                Calls.answer(stairs, "mark");
            }
            for (int time = 0; time < 4; time++) {
                Calls.answer(stairs, "splash", 0, 1, 1, 2, 20 + time);
                Calls.answer(stairs, "swap", 0, 1);
                Calls.answer(stairs, "turn", time % 2);
                Calls.answer(stairs, "bail", 1, 9);
                Calls.answer(stairs, "passHours", 1 + time);
            }
            Calls.answer(stairs, "back", 8);
            Calls.answer(stairs, "rain", 0, 2, -17);
            Calls.answer(stairs, "rain", 1, 0, -90);
        }
    },

    /** 8 x 16, with one mark and one deed. */
    GREATEST {
        @Override
        void play(Object stairs) {
            Calls.answer(stairs, "lay", 8, 16);
            Calls.answer(stairs, "mark");
            Calls.answer(stairs, "splash", 1, 2, 6, 14, 99);
        }
    };

    /** Plays the calls of the scene on a new staircase, or on a new model of one. */
    abstract void play(Object stairs);

    PuddleStairs stairs() {
        PuddleStairs stairs = new PuddleStairs();
        play(stairs);
        return stairs;
    }

    Model model() {
        Model model = new Model();
        play(model);
        return model;
    }
}
