/** Runs every test of the project; exit code 1 when an answer is not as due. */
public final class AllTests {
    public static void main(String[] args) throws Exception {
        Check check = new Check();
        NewObjectTest.run(check);
        PutTest.run(check);
        TextTest.run(check);
        RulesTest.run(check);
        MoveTest.run(check);
        PowerTest.run(check);
        LookTest.run(check);
        TextEdgeTest.run(check);
        RuleEdgeTest.run(check);
        RecordEdgeTest.run(check);
        CallEdgeTest.run(check);
        LookEdgeTest.run(check);
        FaceTest.run(check);
        ReadmeTest.run(check);
        ModelTest.run(check);
        for (int i = 0; i < check.wrong().size() && i < 50; i++) {
            System.out.println(check.wrong().get(i));
        }
        System.out.println(check.right() + " passed, " + check.wrong().size() + " failed");
        if (!check.wrong().isEmpty()) {
            System.exit(1);
        }
    }
}
