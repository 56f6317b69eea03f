/** Promise 11: supertypes. */
final class P11SupertypesTest {
    public static void main(String[] args) {
        throughClassesAndInterfaces();
        numbersOfTheWrongKindDoNotCount();
        refuses();
        Check.end();
    }

    private static void throughClassesAndInterfaces() {
        CompatibilityJudge x = new CompatibilityJudge();
        x.type(0, 0, 1, 0, -1);
        x.type(0, 1, 1, 0, -1);
        x.type(0, 2, 1, 0, -1);
        x.type(0, 4, 0, 0, -1);
        x.type(0, 8, 0, 0, 4);
        x.type(0, 11, 0, 0, 8);
        x.implement(0, 2, 0);
        x.implement(0, 4, 2);
        x.implement(0, 11, 1);
        Check.due(x.supertypes(0, 0), 0);
        Check.due(x.supertypes(0, 2), 1);
        Check.due(x.supertypes(0, 4), 5);
        Check.due(x.supertypes(0, 8), 16 + 5);
        Check.due(x.supertypes(0, 11), 256 + 16 + 5 + 2);
        Check.due(x.supertypes(1, 11), 0);
        x.remove(0, 2);
        Check.due(x.supertypes(0, 11), 256 + 16 + 2);
        x.remove(0, 8);
        Check.due(x.supertypes(0, 11), 2);
        Check.due(x.supertypes(0, 8), 0);
        x.type(0, 8, 0, 0, -1);
        Check.due(x.supertypes(0, 11), 256 + 2);
    }

    private static void numbersOfTheWrongKindDoNotCount() {
        CompatibilityJudge x = new CompatibilityJudge();
        x.type(1, 1, 1, 0, -1);
        x.type(1, 2, 0, 0, -1);
        x.type(1, 5, 0, 0, 1);
        x.implement(1, 5, 2);
        Check.due(x.supertypes(1, 5), 0);
        x.remove(1, 1);
        x.remove(1, 2);
        x.type(1, 1, 0, 0, -1);
        Check.due(x.supertypes(1, 5), 2);
        x.type(1, 2, 1, 0, -1);
        Check.due(x.supertypes(1, 5), 6);
    }

    private static void refuses() {
        CompatibilityJudge x = new CompatibilityJudge();
        Check.due(x.supertypes(-1, 0), Check.REFUSED);
        Check.due(x.supertypes(2, 0), Check.REFUSED);
        Check.due(x.supertypes(0, -1), Check.REFUSED);
        Check.due(x.supertypes(0, 12), Check.REFUSED);
        Check.due(x.supertypes(Integer.MAX_VALUE, Integer.MIN_VALUE), Check.REFUSED);
        Check.due(x.supertypes(1, 11), 0);
    }
}
