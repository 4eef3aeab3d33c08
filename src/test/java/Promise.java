import java.lang.annotation.ElementType;
import java.lang.annotation.Retention;
import java.lang.annotation.RetentionPolicy;
import java.lang.annotation.Target;

/** Stands over a test of one boundary: the promise's number, and the document's words that name the boundary. */
@Retention(RetentionPolicy.RUNTIME)
@Target(ElementType.METHOD)
@interface Promise {
  int number();

  String says();
}
