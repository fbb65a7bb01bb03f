/** Promise 1. */
public final class NewObjectTest {
    public static void main(String[] args) {
        ShareHall x = new ShareHall();
        if (x.total(0) != 2 || x.total(5) != 1) {
            System.out.println("a new object has two parties and a bound of 1");
            System.exit(1);
        }
    }
}
