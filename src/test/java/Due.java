/** Counts the answers that are not as due, and ends a test with exit code 1 if there were any. */
final class Due {
    private int wrong;
    private String sentence = "";

    /** The words of the document that the answers from here on are held against. */
    void sentence(String words) {
        sentence = "[" + words + "] ";
    }

    void is(String call, long got, long want) {
        if (got != want) {
            wrong++;
            System.out.println(sentence + call + " answered " + got + ", due is " + want);
        }
    }

    /** The trace of the latest walk, whole, with its length and what stands around it. */
    void trace(GateHalls x, String after, int... want) {
        is(after + ": trace(-1)", x.trace(-1), want.length);
        for (int k = 0; k < want.length; k++) {
            is(after + ": trace(" + k + ")", x.trace(k), want[k]);
        }
        is(after + ": trace(" + want.length + ")", x.trace(want.length), -1);
    }

    /** One told number of the halls of the places from 0 on. */
    void told(GateHalls x, String after, int what, int... want) {
        for (int place = 0; place < want.length; place++) {
            is(after + ": told(" + place + ", " + what + ")", x.told(place, what), want[place]);
        }
    }

    /** All that two objects tell, by some 150 calls on each, which leave parents as they were. */
    void same(String after, GateHalls got, GateHalls want) {
        for (int what = 0; what <= 5; what++) {
            is(after + ": count(" + what + ")", got.count(what), want.count(what));
        }
        for (int k = -1; k <= want.trace(-1); k++) {
            is(after + ": trace(" + k + ")", got.trace(k), want.trace(k));
        }
        for (int place = 0; place <= 9; place++) {
            for (int what = 0; what <= 7; what++) {
                is(after + ": told(" + place + ", " + what + ")", got.told(place, what), want.told(place, what));
            }
            is(after + ": gifts(" + place + ")", got.gifts(place), want.gifts(place));
            sameParent(after, got, want, place);
        }
    }

    private void sameParent(String after, GateHalls got, GateHalls want, int place) {
        int parentGot = got.parent(place, -1);
        int parentWant = want.parent(place, -1);
        is(after + ": parent of " + place, parentGot, parentWant);
        got.parent(place, parentGot);
        want.parent(place, parentWant);
    }

    void end() {
        System.out.println(wrong == 0 ? "all answers are as due" : wrong + " answers are not as due");
        if (wrong != 0) {
            System.exit(1);
        }
    }
}
