/** Promises 1 to 50, sentence by sentence: each that tells a bound or a code has a test of its own. */
public final class PromiseTests {
    public static void main(String[] args) {
        EdgesOfHouse.run();
        EdgesOfDeeds.run();
        EdgesOfComing.run();
        EdgesOfLights.run();
        EdgesOfTrays.run();
        Doc.noneLeft(1, 50);
        Check.end();
    }
}
