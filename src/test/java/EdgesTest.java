/** The edges that the document names: a test for each sentence of the terms and of the promises 1 to 21. */
public final class EdgesTest {
    public static void main(String[] args) {
        EdgesOfBoard.all();
        EdgesOfSupply.all();
        EdgesOfJobs.all();
        EdgesOfValue.all();
        EdgesOfMonth.all();
        EdgesOfGrowth.all();
        EdgesOfRefusals.all();
        EdgesOfBuilding.all();
        EdgesOfMoney.all();
        EdgesOfCells.all();
        EdgesOfLongRuns.all();
        Edge.end();
    }
}
