/** A state with something of everything, so that it shows if a call changes what it should not. */
final class Rich {
    private Rich() {
    }

    /**
     * OLD has not the types 4, 6, 9 and 10, NEW not 4, 5, 6 and 10. Type 8 has 3 superinterfaces,
     * type 11 has 8 members. There are three findings, two of them suppressed.
     */
    static void build(Judge x) {
        types(x);
        members(x);
        x.copy();
        x.remove(1, 5);
        x.type(1, 9, 0, 1, -1);
        x.drop(1, 3, 2);
        x.constant(1, 3, 1, 6);
        x.suppress(0, 5, true);
        x.suppress(9, 3, true);
        x.suppress(13, 11, true);
    }

    private static void types(Judge x) {
        x.type(0, 0, 1, 1, -1);
        x.type(0, 1, 1, 1, -1);
        x.implement(0, 1, 0);
        x.type(0, 2, 0, 3, -1);
        x.type(0, 3, 0, 1, 2);
        x.implement(0, 3, 1);
        x.type(0, 5, 0, 5, 3);
        x.type(0, 7, 1, 0, -1);
        x.type(0, 8, 0, 1, 6);
        x.implement(0, 8, 4);
        x.implement(0, 8, 2);
        x.implement(0, 8, 7);
        x.type(0, 11, 0, 1, 3);
    }

    private static void members(Judge x) {
        x.member(0, 0, 0, 0, 15);
        x.constant(0, 0, 0, 5);
        x.member(0, 0, 1, 1, 19);
        x.member(0, 2, 1, 1, 3);
        x.member(0, 2, 0, 63, 3);
        x.member(0, 3, 2, 7, 3);
        x.member(0, 3, 0, 1, 11);
        x.constant(0, 3, 1, -1);
        x.member(0, 3, 1, 511, 2);
        for (int key = 0; key < 4; key++) {
            x.member(0, 11, 1, key, 3);
        }
        x.member(0, 11, 0, 0, 2);
        x.member(0, 11, 0, 1, 0);
        x.member(0, 11, 2, 0, 1);
        x.member(0, 11, 2, 7, 3);
    }
}
